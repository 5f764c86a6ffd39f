section
variable {X : Nat × (Nat → Int32)} {d : Nat} {I : Nat → Nat → Int32} {J : Nat → Nat → Int64}
/-! ===== promise 43, class side ===== -/
def nxL (x : Nat) : Nat := 48271 * x % 2147483647
def szL (x : Nat) : Int := if x / 1024 % 2 = 1 then 1 else -1
theorem szL_z (x : Nat) : szL x = -1 ∨ szL x = 1 := by unfold szL; split <;> omega
def ltsB (P : Pce) (ds : List Deed) (x : Nat) : Bool := decide (x / 64 % (if isK (P.2.2.1 (evO P ds).1) 4 then 2 else 4) = 0) && decide (-2 ≤ (evO P ds).2.2.1 (x % P.1) + szL x ∧ (evO P ds).2.2.1 (x % P.1) + szL x ≤ 2)
def slE (P : Pce) (x : Nat) : Deed := (1, x % P.1, (szL x + 1).toNat)
def slD (P : Pce) (ds : List Deed) (x : Nat) : List Deed := if ltsB P ds x then ds ++ [slE P x] else ds
theorem slD_n {P : Pce} {ds : List Deed} {x : Nat} (h : ltsB P ds x = false) : slD P ds x = ds := by unfold slD; rw [h]; rfl
theorem slD_y {P : Pce} {ds : List Deed} {x : Nat} (h : ltsB P ds x = true) : slD P ds x = ds ++ [slE P x] := by unfold slD; rw [h]; rfl
theorem sl_ok {P : Pce} {ds : List Deed} {x : Nat} (hp : x % P.1 < P.1) (h : -2 ≤ (evO P ds).2.2.1 (x % P.1) + szL x ∧ (evO P ds).2.2.1 (x % P.1) + szL x ≤ 2) : evOK P (evO P ds) (slE P x) := by
  have hz := szL_z x
  exact ⟨hp, by show (szL x + 1).toNat = 0 ∨ (szL x + 1).toNat = 2; omega, by show -2 ≤ (evO P ds).2.2.1 (x % P.1) + ((szL x + 1).toNat : Int) - 1; omega, by show (evO P ds).2.2.1 (x % P.1) + ((szL x + 1).toNat : Int) - 1 ≤ 2; omega⟩
theorem DsOK.app {P : Pce} {ds : List Deed} {e : Deed} (h : DsOK P ds) (hl : ds.length < 40) (hk : evOK P (evO P ds) e) : DsOK P (ds ++ [e]) := ⟨by rw [List.length_append]; exact hl, evAll_app.mpr ⟨h.2, hk, trivial⟩⟩
theorem StOK.ds {rw tx : Tab} {P : Pce} {ds es : List Deed} {sh : Shf} (h : StOK rw tx P ds sh) (h1 : DsOK P es) : StOK rw tx P es sh := ⟨h.1, h.2.1, h.2.2.1, h1, h.2.2.2.2⟩
theorem slD_at {P : Pce} {ds : List Deed} {x : Nat} : (evO P (slD P ds x)).1 = (evO P ds).1 := by
  unfold slD
  split
  · rw [show evO P (ds ++ [slE P x]) = evStep P (evO P ds) (slE P x) from evRun_app P evE ds [slE P x]]
    rfl
  · rfl
theorem slD_ok {rw tx : Tab} {P : Pce} {ds : List Deed} {sh : Shf} {x : Nat} (h : StOK rw tx P ds sh) (hl : ds.length < 40) (h2 : 2 ≤ P.1) : StOK rw tx P (slD P ds x) sh := by
  unfold slD
  split
  · rename_i q
    unfold ltsB at q
    rw [Bool.and_eq_true] at q
    exact h.ds (h.2.2.2.1.app hl (sl_ok (Nat.mod_lt _ (by omega)) (of_decide_eq_true q.2)))
  · exact h
def lo (P : Pce) : Nat → Nat → List Deed → Nat → Nat × List Deed
  | 0, _, ds, c => (c, ds)
  | k + 1, x, ds, c => if P.2.1 ≤ (evO P ds).1 ∨ 40 ≤ ds.length then (c, ds) else
    if 40 ≤ (slD P ds (nxL x)).length then (c, slD P ds (nxL x)) else lo P k (nxL x) (slD P ds (nxL x) ++ [(0, 0, 0)]) (c + 1)
theorem lo_0 {P : Pce} {x c : Nat} {ds : List Deed} : lo P 0 x ds c = (c, ds) := rfl
theorem lo_s {P : Pce} {k x c : Nat} {ds : List Deed} : lo P (k + 1) x ds c = if P.2.1 ≤ (evO P ds).1 ∨ 40 ≤ ds.length then (c, ds) else
    if 40 ≤ (slD P ds (nxL x)).length then (c, slD P ds (nxL x)) else lo P k (nxL x) (slD P ds (nxL x) ++ [(0, 0, 0)]) (c + 1) := rfl
theorem nxL_lt (x : Nat) : nxL x < 2147483647 := Nat.mod_lt _ (by decide)
def S_lots (P : Pce) (ds : List Deed) (n e : Int32) : Int32 × List Deed := if (1 ≤ n ∧ n ≤ 20) ∧ (1 ≤ e ∧ e ≤ 2147483646) then (if P.2.1 ≤ (evO P ds).1 then (-4, ds) else (nI (lo P n.toNatClampNeg e.toNatClampNeg ds 0).1, (lo P n.toNatClampNeg e.toNatClampNeg ds 0).2)) else (-1, ds)
theorem lot_n {v : Int32} {m : Nat} (h1 : 1 ≤ v) (h2 : v < nI m) (hm : m < 2 ^ 31) : ∃ j, j < m ∧ v = nI j := ix_of hm (fun q => absurd (Int32.lt_iff_toInt_lt.mp q) (by
  have a := Int32.le_iff_toInt_le.mp h1
  rw [show (1 : Int32).toInt = 1 by decide] at a
  rw [show (0 : Int32).toInt = 0 by decide]
  omega)) h2
theorem lot_b {v k : Int32} {m : Nat} (h : v ≤ k) (hk : k.toInt < m) (hm : m < 2 ^ 31) : v < nI m := by
  rw [Int32.lt_iff_toInt_lt, nI_toInt hm]
  have a := Int32.le_iff_toInt_le.mp h
  omega
theorem not_lt_le {a b : Int32} (h : ¬ a < b) : b ≤ a := Int32.not_lt.mp h
theorem ct_slipByLot {rw tx : Tab} {P : Pce} {ds : List Deed} {sh : Shf} {tl : Int32} {ch : Int64 × Int64} {fn : Fnd} {x : Nat} (hA : AbsC rw tx P ds sh tl ch fn I J) (hO : StOK rw tx P ds sh) (hlt : (evO P ds).1 < P.2.1) (hl : ds.length < 40) (hx : x < 2147483647) : Ct X (d + 5) 66 M_X10_slipByLot 66 [.ref 0, .int (nI x)] (I, J, rf0) (RV (fun m => ∃ I', m = (I', J, rf0) ∧ FrC I I' ∧ AbsC rw tx P (slD P ds x) sh tl ch fn I' J)) := by
  have hP := hA.2.2.1
  have hQ := hO.2.2.1
  have h14 := hQ.2.1
  have h4 := hQ.1
  have hEv := hA.2.2.2.1
  have hD := hO.2.2.2.1
  have hl40 := hD.1
  have hE := hEv.2.2
  have hR : EvR (evO P ds) := EvR.e.run hQ hD.2
  have hr14 := hR.1
  have h2 : 2 ≤ P.1 := hQ.2.2.1.resolve_left (by omega)
  have hmp : x % P.1 < P.1 := Nat.mod_lt _ (by omega)
  have hz := szL_z x
  show Go _ _ _ _ _ _ [_, _, _, _, _] _ _ _
  refine g_aload_n dX10_slipByLot_0 rfl ?_
  refine t_getR dX10_slipByLot_1 fl_X10_35 rfl (by decide) rfl (by decide) rfl ?_
  refine t_getI dX10_slipByLot_4 fl_X10_329 rfl (by decide) rfl (by decide) ?_
  rw [hP.1]
  refine g_if_gt (tgt := 11) dX10_slipByLot_7 (by decide) (fun c7 => ?_) (fun c7 => ?_)
  · skip
    refine g_aload_n dX10_slipByLot_11 rfl ?_
    refine t_getR dX10_slipByLot_12 fl_X10_35 rfl (by decide) rfl (by decide) rfl ?_
    refine g_aload_n dX10_slipByLot_15 rfl ?_
    refine t_getR dX10_slipByLot_16 fl_X10_44 rfl (by decide) rfl (by decide) rfl ?_
    refine t_getI dX10_slipByLot_19 fl_X10_194 rfl (by decide) rfl (by decide) ?_
    rw [hE.1]
    refine g_iconst (v := 4) dX10_slipByLot_22 (by decide) ?_
    refine g_callVi dX10_slipByLot_23 ln_X10_180 ⟨_, rfl⟩ rfl (by decide) ⟨_, _, rfl⟩ rfl (Nat.le_of_ble_eq_true rfl) (Nat.le_of_ble_eq_true rfl) (ct_isOf (x := (evO P ds).1) (w := 4) hP hQ hlt (by decide)) rfl (fun r23 m23 h23 => ?_)
    obtain ⟨rfl, rfl⟩ := h23
    refine g_if_eq (tgt := 33) dX10_slipByLot_26 (by decide) (fun c26 => ?_) (fun c26 => ?_)
    · skip
      refine g_iconst (v := 4) dX10_slipByLot_33 (by decide) ?_
      refine g_istore_n dX10_slipByLot_34 (by decide) ?_
      show Go _ _ _ _ _ _ [_, _, _, _, _] _ _ _
      refine g_iload_n dX10_slipByLot_35 rfl ?_
      refine g_bipush (v := 64) dX10_slipByLot_36 (by decide) ?_
      refine g_idiv dX10_slipByLot_38 (by decide) ?_
      rw [show (64 : Int32) = nI 64 from rfl, pk_div (by omega) (by decide) (by decide)]
      refine g_iload_n dX10_slipByLot_39 rfl ?_
      refine g_irem dX10_slipByLot_40 (by decide) ?_
      first
        | rw [show (2 : Int32) = nI 2 from rfl, pk_rem (by omega) (by decide) (by decide)]
        | rw [show (4 : Int32) = nI 4 from rfl, pk_rem (by omega) (by decide) (by decide)]
        | fail "no way"
      refine g_if_eq (tgt := 45) dX10_slipByLot_41 (by decide) (fun c41 => ?_) (fun c41 => ?_)
      · skip
        refine g_iload_n dX10_slipByLot_45 rfl ?_
        refine g_aload_n dX10_slipByLot_46 rfl ?_
        refine t_getR dX10_slipByLot_47 fl_X10_35 rfl (by decide) rfl (by decide) rfl ?_
        refine t_getI dX10_slipByLot_50 fl_X10_329 rfl (by decide) rfl (by decide) ?_
        rw [hP.1]
        refine g_irem dX10_slipByLot_53 (fun q => by have := (nI_eq (by omega) (by decide)).mp (show nI P.1 = nI 0 from q); omega) ?_
        rw [pk_rem (by omega) (by omega) (by omega)]
        refine g_istore_n dX10_slipByLot_54 (by decide) ?_
        show Go _ _ _ _ _ _ [_, _, _, _, _] _ _ _
        refine g_iload_n dX10_slipByLot_55 rfl ?_
        refine g_sipush (v := 1024) dX10_slipByLot_56 (by decide) ?_
        refine g_idiv dX10_slipByLot_59 (by decide) ?_
        rw [show (1024 : Int32) = nI 1024 from rfl, pk_div (by omega) (by decide) (by decide)]
        refine g_iconst (v := 2) dX10_slipByLot_60 (by decide) ?_
        refine g_irem dX10_slipByLot_61 (by decide) ?_
        rw [show (2 : Int32) = nI 2 from rfl, pk_rem (by omega) (by decide) (by decide)]
        refine g_iconst (v := 1) dX10_slipByLot_62 (by decide) ?_
        refine g_icmp_ne (tgt := 70) dX10_slipByLot_63 (by decide) (fun c63 => ?_) (fun c63 => ?_)
        · skip
          refine g_iconst (v := -1) dX10_slipByLot_70 (by decide) ?_
          refine t_ist (fun dv hdv => ?_)
          refine g_istore dX10_slipByLot_71 (by decide) ?_
          show Go _ _ _ _ _ _ [_, _, _, _, _] _ _ _
          have hdz : dv = zI (szL x) := by
            have hm2 : x / 1024 % 2 < 2 := Nat.mod_lt _ (by decide)
            first
              | (rw [hdv, show szL x = 1 from if_pos ((nI_eq (by omega) (by decide)).mp (show nI (x / 1024 % 2) = nI 1 from c63))]; rfl)
              | (rw [hdv, show szL x = -1 from if_neg (fun (q : x / 1024 % 2 = 1) => c63 (by rw [q]; rfl))]; decide)
              | fail "no way"
          rw [hdz]
          refine g_aload_n dX10_slipByLot_73 rfl ?_
          refine t_getR dX10_slipByLot_74 fl_X10_44 rfl (by decide) rfl (by decide) rfl ?_
          refine g_iload_n dX10_slipByLot_77 rfl ?_
          refine g_iload dX10_slipByLot_78 rfl ?_
          refine g_callVi dX10_slipByLot_80 ln_X10_203 ⟨_, rfl⟩ rfl (by decide) ⟨_, _, rfl⟩ rfl (Nat.le_of_ble_eq_true rfl) (Nat.le_of_ble_eq_true rfl) (ct_canSlip (p := x % P.1) (z := szL x) hE.2.2.1 hR.2.2.1 (by omega) (by omega)) rfl (fun r80 m80 h80 => ?_)
          obtain ⟨rfl, rfl⟩ := h80
          refine g_if_eq (tgt := 99) dX10_slipByLot_83 (by decide) (fun c83 => ?_) (fun c83 => ?_)
          · skip
            refine g_vret dX10_slipByLot_99 ?_
            have h0 : decide (x / 64 % (if isK (P.2.2.1 (evO P ds).1) 4 then 2 else 4) = 0) = true := by
              first
                | (rw [bI_eq c26]; show decide (x / 64 % 4 = 0) = true; exact decide_eq_true ((nI_eq (by have := Nat.mod_lt (x / 64) (show 0 < 4 by decide); omega) (by decide)).mp (show nI (x / 64 % 4) = nI 0 from c41)))
                | (rw [bI_ne c26]; show decide (x / 64 % 2 = 0) = true; exact decide_eq_true ((nI_eq (by have := Nat.mod_lt (x / 64) (show 0 < 2 by decide); omega) (by decide)).mp (show nI (x / 64 % 2) = nI 0 from c41)))
                | fail "no way"
            first
              | exact ⟨_, rfl, FrC.rf, by rw [slD_n (by unfold ltsB; rw [bI_eq c83, Bool.and_false])]; exact hA⟩
              | exact ⟨_, rfl, FrC.of hf1 (by decide), by rw [slD_y (by unfold ltsB; rw [h0, bI_ne c83]; rfl)]; exact hA.upEv hf1 hE1⟩
              | fail "no way"
          · skip
            refine g_aload_n dX10_slipByLot_86 rfl ?_
            refine t_getR dX10_slipByLot_87 fl_X10_44 rfl (by decide) rfl (by decide) rfl ?_
            refine g_iconst (v := 1) dX10_slipByLot_90 (by decide) ?_
            refine g_iload_n dX10_slipByLot_91 rfl ?_
            refine g_iload dX10_slipByLot_92 rfl ?_
            refine g_iconst (v := 1) dX10_slipByLot_94 (by decide) ?_
            refine g_iadd dX10_slipByLot_95 ?_
            have hcs := of_decide_eq_true (bI_ne c83)
            rw [show zI (szL x) + 1 = nI (szL x + 1).toNat by rw [show (1 : Int32) = zI 1 from rfl, z_add, z_nat (by omega)]]
            refine g_callVv dX10_slipByLot_96 ln_X10_197 rfl rfl (by decide) ⟨_, _, rfl⟩ rfl (Nat.le_of_ble_eq_true rfl) (Nat.le_of_ble_eq_true rfl) (ct_act (k := 1) (p := x % P.1) (w := (szL x + 1).toNat) hP hQ hEv hD hl (sl_ok hmp hcs)) rfl (fun m96 h96 => ?_)
            obtain ⟨I1, rfl, hf1, hE1⟩ := h96
            refine g_vret dX10_slipByLot_99 ?_
            have h0 : decide (x / 64 % (if isK (P.2.2.1 (evO P ds).1) 4 then 2 else 4) = 0) = true := by
              first
                | (rw [bI_eq c26]; show decide (x / 64 % 4 = 0) = true; exact decide_eq_true ((nI_eq (by have := Nat.mod_lt (x / 64) (show 0 < 4 by decide); omega) (by decide)).mp (show nI (x / 64 % 4) = nI 0 from c41)))
                | (rw [bI_ne c26]; show decide (x / 64 % 2 = 0) = true; exact decide_eq_true ((nI_eq (by have := Nat.mod_lt (x / 64) (show 0 < 2 by decide); omega) (by decide)).mp (show nI (x / 64 % 2) = nI 0 from c41)))
                | fail "no way"
            first
              | exact ⟨_, rfl, FrC.rf, by rw [slD_n (by unfold ltsB; rw [bI_eq c83, Bool.and_false])]; exact hA⟩
              | exact ⟨_, rfl, FrC.of hf1 (by decide), by rw [slD_y (by unfold ltsB; rw [h0, bI_ne c83]; rfl)]; exact hA.upEv hf1 hE1⟩
              | fail "no way"
        · skip
          refine g_iconst (v := 1) dX10_slipByLot_66 (by decide) ?_
          refine g_goto (tgt := 71) dX10_slipByLot_67 (by decide) ?_
          refine t_ist (fun dv hdv => ?_)
          refine g_istore dX10_slipByLot_71 (by decide) ?_
          show Go _ _ _ _ _ _ [_, _, _, _, _] _ _ _
          have hdz : dv = zI (szL x) := by
            have hm2 : x / 1024 % 2 < 2 := Nat.mod_lt _ (by decide)
            first
              | (rw [hdv, show szL x = 1 from if_pos ((nI_eq (by omega) (by decide)).mp (show nI (x / 1024 % 2) = nI 1 from c63))]; rfl)
              | (rw [hdv, show szL x = -1 from if_neg (fun (q : x / 1024 % 2 = 1) => c63 (by rw [q]; rfl))]; decide)
              | fail "no way"
          rw [hdz]
          refine g_aload_n dX10_slipByLot_73 rfl ?_
          refine t_getR dX10_slipByLot_74 fl_X10_44 rfl (by decide) rfl (by decide) rfl ?_
          refine g_iload_n dX10_slipByLot_77 rfl ?_
          refine g_iload dX10_slipByLot_78 rfl ?_
          refine g_callVi dX10_slipByLot_80 ln_X10_203 ⟨_, rfl⟩ rfl (by decide) ⟨_, _, rfl⟩ rfl (Nat.le_of_ble_eq_true rfl) (Nat.le_of_ble_eq_true rfl) (ct_canSlip (p := x % P.1) (z := szL x) hE.2.2.1 hR.2.2.1 (by omega) (by omega)) rfl (fun r80 m80 h80 => ?_)
          obtain ⟨rfl, rfl⟩ := h80
          refine g_if_eq (tgt := 99) dX10_slipByLot_83 (by decide) (fun c83 => ?_) (fun c83 => ?_)
          · skip
            refine g_vret dX10_slipByLot_99 ?_
            have h0 : decide (x / 64 % (if isK (P.2.2.1 (evO P ds).1) 4 then 2 else 4) = 0) = true := by
              first
                | (rw [bI_eq c26]; show decide (x / 64 % 4 = 0) = true; exact decide_eq_true ((nI_eq (by have := Nat.mod_lt (x / 64) (show 0 < 4 by decide); omega) (by decide)).mp (show nI (x / 64 % 4) = nI 0 from c41)))
                | (rw [bI_ne c26]; show decide (x / 64 % 2 = 0) = true; exact decide_eq_true ((nI_eq (by have := Nat.mod_lt (x / 64) (show 0 < 2 by decide); omega) (by decide)).mp (show nI (x / 64 % 2) = nI 0 from c41)))
                | fail "no way"
            first
              | exact ⟨_, rfl, FrC.rf, by rw [slD_n (by unfold ltsB; rw [bI_eq c83, Bool.and_false])]; exact hA⟩
              | exact ⟨_, rfl, FrC.of hf1 (by decide), by rw [slD_y (by unfold ltsB; rw [h0, bI_ne c83]; rfl)]; exact hA.upEv hf1 hE1⟩
              | fail "no way"
          · skip
            refine g_aload_n dX10_slipByLot_86 rfl ?_
            refine t_getR dX10_slipByLot_87 fl_X10_44 rfl (by decide) rfl (by decide) rfl ?_
            refine g_iconst (v := 1) dX10_slipByLot_90 (by decide) ?_
            refine g_iload_n dX10_slipByLot_91 rfl ?_
            refine g_iload dX10_slipByLot_92 rfl ?_
            refine g_iconst (v := 1) dX10_slipByLot_94 (by decide) ?_
            refine g_iadd dX10_slipByLot_95 ?_
            have hcs := of_decide_eq_true (bI_ne c83)
            rw [show zI (szL x) + 1 = nI (szL x + 1).toNat by rw [show (1 : Int32) = zI 1 from rfl, z_add, z_nat (by omega)]]
            refine g_callVv dX10_slipByLot_96 ln_X10_197 rfl rfl (by decide) ⟨_, _, rfl⟩ rfl (Nat.le_of_ble_eq_true rfl) (Nat.le_of_ble_eq_true rfl) (ct_act (k := 1) (p := x % P.1) (w := (szL x + 1).toNat) hP hQ hEv hD hl (sl_ok hmp hcs)) rfl (fun m96 h96 => ?_)
            obtain ⟨I1, rfl, hf1, hE1⟩ := h96
            refine g_vret dX10_slipByLot_99 ?_
            have h0 : decide (x / 64 % (if isK (P.2.2.1 (evO P ds).1) 4 then 2 else 4) = 0) = true := by
              first
                | (rw [bI_eq c26]; show decide (x / 64 % 4 = 0) = true; exact decide_eq_true ((nI_eq (by have := Nat.mod_lt (x / 64) (show 0 < 4 by decide); omega) (by decide)).mp (show nI (x / 64 % 4) = nI 0 from c41)))
                | (rw [bI_ne c26]; show decide (x / 64 % 2 = 0) = true; exact decide_eq_true ((nI_eq (by have := Nat.mod_lt (x / 64) (show 0 < 2 by decide); omega) (by decide)).mp (show nI (x / 64 % 2) = nI 0 from c41)))
                | fail "no way"
            first
              | exact ⟨_, rfl, FrC.rf, by rw [slD_n (by unfold ltsB; rw [bI_eq c83, Bool.and_false])]; exact hA⟩
              | exact ⟨_, rfl, FrC.of hf1 (by decide), by rw [slD_y (by unfold ltsB; rw [h0, bI_ne c83]; rfl)]; exact hA.upEv hf1 hE1⟩
              | fail "no way"
      · skip
        refine g_vret dX10_slipByLot_44 ?_
        have hB : ltsB P ds x = false := by
          unfold ltsB
          first
            | rw [bI_eq c26, decide_eq_false (show ¬ x / 64 % (if false = true then 2 else 4) = 0 from fun (q : x / 64 % 4 = 0) => c41 (by rw [q]; rfl))]; rfl
            | rw [bI_ne c26, decide_eq_false (show ¬ x / 64 % (if true = true then 2 else 4) = 0 from fun (q : x / 64 % 2 = 0) => c41 (by rw [q]; rfl))]; rfl
            | fail "no way"
        exact ⟨_, rfl, FrC.rf, by rw [slD_n hB]; exact hA⟩
    · skip
      refine g_iconst (v := 2) dX10_slipByLot_29 (by decide) ?_
      refine g_goto (tgt := 34) dX10_slipByLot_30 (by decide) ?_
      refine g_istore_n dX10_slipByLot_34 (by decide) ?_
      show Go _ _ _ _ _ _ [_, _, _, _, _] _ _ _
      refine g_iload_n dX10_slipByLot_35 rfl ?_
      refine g_bipush (v := 64) dX10_slipByLot_36 (by decide) ?_
      refine g_idiv dX10_slipByLot_38 (by decide) ?_
      rw [show (64 : Int32) = nI 64 from rfl, pk_div (by omega) (by decide) (by decide)]
      refine g_iload_n dX10_slipByLot_39 rfl ?_
      refine g_irem dX10_slipByLot_40 (by decide) ?_
      first
        | rw [show (2 : Int32) = nI 2 from rfl, pk_rem (by omega) (by decide) (by decide)]
        | rw [show (4 : Int32) = nI 4 from rfl, pk_rem (by omega) (by decide) (by decide)]
        | fail "no way"
      refine g_if_eq (tgt := 45) dX10_slipByLot_41 (by decide) (fun c41 => ?_) (fun c41 => ?_)
      · skip
        refine g_iload_n dX10_slipByLot_45 rfl ?_
        refine g_aload_n dX10_slipByLot_46 rfl ?_
        refine t_getR dX10_slipByLot_47 fl_X10_35 rfl (by decide) rfl (by decide) rfl ?_
        refine t_getI dX10_slipByLot_50 fl_X10_329 rfl (by decide) rfl (by decide) ?_
        rw [hP.1]
        refine g_irem dX10_slipByLot_53 (fun q => by have := (nI_eq (by omega) (by decide)).mp (show nI P.1 = nI 0 from q); omega) ?_
        rw [pk_rem (by omega) (by omega) (by omega)]
        refine g_istore_n dX10_slipByLot_54 (by decide) ?_
        show Go _ _ _ _ _ _ [_, _, _, _, _] _ _ _
        refine g_iload_n dX10_slipByLot_55 rfl ?_
        refine g_sipush (v := 1024) dX10_slipByLot_56 (by decide) ?_
        refine g_idiv dX10_slipByLot_59 (by decide) ?_
        rw [show (1024 : Int32) = nI 1024 from rfl, pk_div (by omega) (by decide) (by decide)]
        refine g_iconst (v := 2) dX10_slipByLot_60 (by decide) ?_
        refine g_irem dX10_slipByLot_61 (by decide) ?_
        rw [show (2 : Int32) = nI 2 from rfl, pk_rem (by omega) (by decide) (by decide)]
        refine g_iconst (v := 1) dX10_slipByLot_62 (by decide) ?_
        refine g_icmp_ne (tgt := 70) dX10_slipByLot_63 (by decide) (fun c63 => ?_) (fun c63 => ?_)
        · skip
          refine g_iconst (v := -1) dX10_slipByLot_70 (by decide) ?_
          refine t_ist (fun dv hdv => ?_)
          refine g_istore dX10_slipByLot_71 (by decide) ?_
          show Go _ _ _ _ _ _ [_, _, _, _, _] _ _ _
          have hdz : dv = zI (szL x) := by
            have hm2 : x / 1024 % 2 < 2 := Nat.mod_lt _ (by decide)
            first
              | (rw [hdv, show szL x = 1 from if_pos ((nI_eq (by omega) (by decide)).mp (show nI (x / 1024 % 2) = nI 1 from c63))]; rfl)
              | (rw [hdv, show szL x = -1 from if_neg (fun (q : x / 1024 % 2 = 1) => c63 (by rw [q]; rfl))]; decide)
              | fail "no way"
          rw [hdz]
          refine g_aload_n dX10_slipByLot_73 rfl ?_
          refine t_getR dX10_slipByLot_74 fl_X10_44 rfl (by decide) rfl (by decide) rfl ?_
          refine g_iload_n dX10_slipByLot_77 rfl ?_
          refine g_iload dX10_slipByLot_78 rfl ?_
          refine g_callVi dX10_slipByLot_80 ln_X10_203 ⟨_, rfl⟩ rfl (by decide) ⟨_, _, rfl⟩ rfl (Nat.le_of_ble_eq_true rfl) (Nat.le_of_ble_eq_true rfl) (ct_canSlip (p := x % P.1) (z := szL x) hE.2.2.1 hR.2.2.1 (by omega) (by omega)) rfl (fun r80 m80 h80 => ?_)
          obtain ⟨rfl, rfl⟩ := h80
          refine g_if_eq (tgt := 99) dX10_slipByLot_83 (by decide) (fun c83 => ?_) (fun c83 => ?_)
          · skip
            refine g_vret dX10_slipByLot_99 ?_
            have h0 : decide (x / 64 % (if isK (P.2.2.1 (evO P ds).1) 4 then 2 else 4) = 0) = true := by
              first
                | (rw [bI_eq c26]; show decide (x / 64 % 4 = 0) = true; exact decide_eq_true ((nI_eq (by have := Nat.mod_lt (x / 64) (show 0 < 4 by decide); omega) (by decide)).mp (show nI (x / 64 % 4) = nI 0 from c41)))
                | (rw [bI_ne c26]; show decide (x / 64 % 2 = 0) = true; exact decide_eq_true ((nI_eq (by have := Nat.mod_lt (x / 64) (show 0 < 2 by decide); omega) (by decide)).mp (show nI (x / 64 % 2) = nI 0 from c41)))
                | fail "no way"
            first
              | exact ⟨_, rfl, FrC.rf, by rw [slD_n (by unfold ltsB; rw [bI_eq c83, Bool.and_false])]; exact hA⟩
              | exact ⟨_, rfl, FrC.of hf1 (by decide), by rw [slD_y (by unfold ltsB; rw [h0, bI_ne c83]; rfl)]; exact hA.upEv hf1 hE1⟩
              | fail "no way"
          · skip
            refine g_aload_n dX10_slipByLot_86 rfl ?_
            refine t_getR dX10_slipByLot_87 fl_X10_44 rfl (by decide) rfl (by decide) rfl ?_
            refine g_iconst (v := 1) dX10_slipByLot_90 (by decide) ?_
            refine g_iload_n dX10_slipByLot_91 rfl ?_
            refine g_iload dX10_slipByLot_92 rfl ?_
            refine g_iconst (v := 1) dX10_slipByLot_94 (by decide) ?_
            refine g_iadd dX10_slipByLot_95 ?_
            have hcs := of_decide_eq_true (bI_ne c83)
            rw [show zI (szL x) + 1 = nI (szL x + 1).toNat by rw [show (1 : Int32) = zI 1 from rfl, z_add, z_nat (by omega)]]
            refine g_callVv dX10_slipByLot_96 ln_X10_197 rfl rfl (by decide) ⟨_, _, rfl⟩ rfl (Nat.le_of_ble_eq_true rfl) (Nat.le_of_ble_eq_true rfl) (ct_act (k := 1) (p := x % P.1) (w := (szL x + 1).toNat) hP hQ hEv hD hl (sl_ok hmp hcs)) rfl (fun m96 h96 => ?_)
            obtain ⟨I1, rfl, hf1, hE1⟩ := h96
            refine g_vret dX10_slipByLot_99 ?_
            have h0 : decide (x / 64 % (if isK (P.2.2.1 (evO P ds).1) 4 then 2 else 4) = 0) = true := by
              first
                | (rw [bI_eq c26]; show decide (x / 64 % 4 = 0) = true; exact decide_eq_true ((nI_eq (by have := Nat.mod_lt (x / 64) (show 0 < 4 by decide); omega) (by decide)).mp (show nI (x / 64 % 4) = nI 0 from c41)))
                | (rw [bI_ne c26]; show decide (x / 64 % 2 = 0) = true; exact decide_eq_true ((nI_eq (by have := Nat.mod_lt (x / 64) (show 0 < 2 by decide); omega) (by decide)).mp (show nI (x / 64 % 2) = nI 0 from c41)))
                | fail "no way"
            first
              | exact ⟨_, rfl, FrC.rf, by rw [slD_n (by unfold ltsB; rw [bI_eq c83, Bool.and_false])]; exact hA⟩
              | exact ⟨_, rfl, FrC.of hf1 (by decide), by rw [slD_y (by unfold ltsB; rw [h0, bI_ne c83]; rfl)]; exact hA.upEv hf1 hE1⟩
              | fail "no way"
        · skip
          refine g_iconst (v := 1) dX10_slipByLot_66 (by decide) ?_
          refine g_goto (tgt := 71) dX10_slipByLot_67 (by decide) ?_
          refine t_ist (fun dv hdv => ?_)
          refine g_istore dX10_slipByLot_71 (by decide) ?_
          show Go _ _ _ _ _ _ [_, _, _, _, _] _ _ _
          have hdz : dv = zI (szL x) := by
            have hm2 : x / 1024 % 2 < 2 := Nat.mod_lt _ (by decide)
            first
              | (rw [hdv, show szL x = 1 from if_pos ((nI_eq (by omega) (by decide)).mp (show nI (x / 1024 % 2) = nI 1 from c63))]; rfl)
              | (rw [hdv, show szL x = -1 from if_neg (fun (q : x / 1024 % 2 = 1) => c63 (by rw [q]; rfl))]; decide)
              | fail "no way"
          rw [hdz]
          refine g_aload_n dX10_slipByLot_73 rfl ?_
          refine t_getR dX10_slipByLot_74 fl_X10_44 rfl (by decide) rfl (by decide) rfl ?_
          refine g_iload_n dX10_slipByLot_77 rfl ?_
          refine g_iload dX10_slipByLot_78 rfl ?_
          refine g_callVi dX10_slipByLot_80 ln_X10_203 ⟨_, rfl⟩ rfl (by decide) ⟨_, _, rfl⟩ rfl (Nat.le_of_ble_eq_true rfl) (Nat.le_of_ble_eq_true rfl) (ct_canSlip (p := x % P.1) (z := szL x) hE.2.2.1 hR.2.2.1 (by omega) (by omega)) rfl (fun r80 m80 h80 => ?_)
          obtain ⟨rfl, rfl⟩ := h80
          refine g_if_eq (tgt := 99) dX10_slipByLot_83 (by decide) (fun c83 => ?_) (fun c83 => ?_)
          · skip
            refine g_vret dX10_slipByLot_99 ?_
            have h0 : decide (x / 64 % (if isK (P.2.2.1 (evO P ds).1) 4 then 2 else 4) = 0) = true := by
              first
                | (rw [bI_eq c26]; show decide (x / 64 % 4 = 0) = true; exact decide_eq_true ((nI_eq (by have := Nat.mod_lt (x / 64) (show 0 < 4 by decide); omega) (by decide)).mp (show nI (x / 64 % 4) = nI 0 from c41)))
                | (rw [bI_ne c26]; show decide (x / 64 % 2 = 0) = true; exact decide_eq_true ((nI_eq (by have := Nat.mod_lt (x / 64) (show 0 < 2 by decide); omega) (by decide)).mp (show nI (x / 64 % 2) = nI 0 from c41)))
                | fail "no way"
            first
              | exact ⟨_, rfl, FrC.rf, by rw [slD_n (by unfold ltsB; rw [bI_eq c83, Bool.and_false])]; exact hA⟩
              | exact ⟨_, rfl, FrC.of hf1 (by decide), by rw [slD_y (by unfold ltsB; rw [h0, bI_ne c83]; rfl)]; exact hA.upEv hf1 hE1⟩
              | fail "no way"
          · skip
            refine g_aload_n dX10_slipByLot_86 rfl ?_
            refine t_getR dX10_slipByLot_87 fl_X10_44 rfl (by decide) rfl (by decide) rfl ?_
            refine g_iconst (v := 1) dX10_slipByLot_90 (by decide) ?_
            refine g_iload_n dX10_slipByLot_91 rfl ?_
            refine g_iload dX10_slipByLot_92 rfl ?_
            refine g_iconst (v := 1) dX10_slipByLot_94 (by decide) ?_
            refine g_iadd dX10_slipByLot_95 ?_
            have hcs := of_decide_eq_true (bI_ne c83)
            rw [show zI (szL x) + 1 = nI (szL x + 1).toNat by rw [show (1 : Int32) = zI 1 from rfl, z_add, z_nat (by omega)]]
            refine g_callVv dX10_slipByLot_96 ln_X10_197 rfl rfl (by decide) ⟨_, _, rfl⟩ rfl (Nat.le_of_ble_eq_true rfl) (Nat.le_of_ble_eq_true rfl) (ct_act (k := 1) (p := x % P.1) (w := (szL x + 1).toNat) hP hQ hEv hD hl (sl_ok hmp hcs)) rfl (fun m96 h96 => ?_)
            obtain ⟨I1, rfl, hf1, hE1⟩ := h96
            refine g_vret dX10_slipByLot_99 ?_
            have h0 : decide (x / 64 % (if isK (P.2.2.1 (evO P ds).1) 4 then 2 else 4) = 0) = true := by
              first
                | (rw [bI_eq c26]; show decide (x / 64 % 4 = 0) = true; exact decide_eq_true ((nI_eq (by have := Nat.mod_lt (x / 64) (show 0 < 4 by decide); omega) (by decide)).mp (show nI (x / 64 % 4) = nI 0 from c41)))
                | (rw [bI_ne c26]; show decide (x / 64 % 2 = 0) = true; exact decide_eq_true ((nI_eq (by have := Nat.mod_lt (x / 64) (show 0 < 2 by decide); omega) (by decide)).mp (show nI (x / 64 % 2) = nI 0 from c41)))
                | fail "no way"
            first
              | exact ⟨_, rfl, FrC.rf, by rw [slD_n (by unfold ltsB; rw [bI_eq c83, Bool.and_false])]; exact hA⟩
              | exact ⟨_, rfl, FrC.of hf1 (by decide), by rw [slD_y (by unfold ltsB; rw [h0, bI_ne c83]; rfl)]; exact hA.upEv hf1 hE1⟩
              | fail "no way"
      · skip
        refine g_vret dX10_slipByLot_44 ?_
        have hB : ltsB P ds x = false := by
          unfold ltsB
          first
            | rw [bI_eq c26, decide_eq_false (show ¬ x / 64 % (if false = true then 2 else 4) = 0 from fun (q : x / 64 % 4 = 0) => c41 (by rw [q]; rfl))]; rfl
            | rw [bI_ne c26, decide_eq_false (show ¬ x / 64 % (if true = true then 2 else 4) = 0 from fun (q : x / 64 % 2 = 0) => c41 (by rw [q]; rfl))]; rfl
            | fail "no way"
        exact ⟨_, rfl, FrC.rf, by rw [slD_n hB]; exact hA⟩
  · exact absurd (show (0 : Int32) < nI P.1 from nI_lt (show 0 < P.1 by omega) (by omega)) c7
theorem lots_full {rw tx : Tab} {P : Pce} {ds : List Deed} {sh : Shf} {tl : Int32} {ch : Int64 × Int64} {fn : Fnd} {n e lot c i : Int32} {f : Int32 → Mem → Prop} (hA : AbsC rw tx P ds sh tl ch fn I J) (hO : StOK rw tx P ds sh) (hful : 40 ≤ ds.length) (hf : f c (I, J, rf0)) : Go X (d + 6) 66 M_X10_lots 66 46 [.ref 0, .int n, .int e, .int lot, .int c, .int i] [] (I, J, rf0) (RI f) := by
  have hP := hA.2.2.1
  have hQ := hO.2.2.1
  have h14 := hQ.2.1
  have h4 := hQ.1
  have hEv := hA.2.2.2.1
  have hD := hO.2.2.2.1
  have hl40 := hD.1
  have hE := hEv.2.2
  have hR : EvR (evO P ds) := EvR.e.run hQ hD.2
  have hr14 := hR.1
  refine g_iload dX10_lots_46 rfl ?_
  refine g_iload_n dX10_lots_48 rfl ?_
  refine g_icmp_ge (tgt := 118) dX10_lots_49 (by decide) (fun c49 => ?_) (fun c49 => ?_)
  · skip
    refine g_iload dX10_lots_118 rfl ?_
    refine g_iret dX10_lots_120 (fun ty h => by cases h; rfl) ?_
    exact hf
  · skip
    refine g_aload_n dX10_lots_52 rfl ?_
    refine t_getR dX10_lots_53 fl_X10_44 rfl (by decide) rfl (by decide) rfl ?_
    refine g_callVi dX10_lots_56 ln_X10_187 ⟨_, rfl⟩ rfl (by decide) ⟨_, _, rfl⟩ rfl (Nat.le_of_ble_eq_true rfl) (Nat.le_of_ble_eq_true rfl) (ct_isOver hP hQ hE hR) rfl (fun r56 m56 h56 => ?_)
    obtain ⟨rfl, rfl⟩ := h56
    refine g_if_ne (tgt := 118) dX10_lots_59 (by decide) (fun c59 => ?_) (fun c59 => ?_)
    · skip
      refine g_iload dX10_lots_118 rfl ?_
      refine g_iret dX10_lots_120 (fun ty h => by cases h; rfl) ?_
      exact hf
    · skip
      refine g_aload_n dX10_lots_62 rfl ?_
      refine t_getR dX10_lots_63 fl_X10_44 rfl (by decide) rfl (by decide) rfl ?_
      refine g_callVi dX10_lots_66 ln_X10_191 ⟨_, rfl⟩ rfl (by decide) ⟨_, _, rfl⟩ rfl (Nat.le_of_ble_eq_true rfl) (Nat.le_of_ble_eq_true rfl) (ct_isFullC hEv.1 (by omega)) rfl (fun r66 m66 h66 => ?_)
      obtain ⟨rfl, rfl⟩ := h66
      refine g_if_ne (tgt := 118) dX10_lots_69 (by decide) (fun c69 => ?_) (fun c69 => ?_)
      · skip
        refine g_iload dX10_lots_118 rfl ?_
        refine g_iret dX10_lots_120 (fun ty h => by cases h; rfl) ?_
        exact hf
      · exact absurd (bI_eq c69) (by rw [decide_eq_true hful]; decide)
theorem pc_lots {rw tx : Tab} {P : Pce} {ds : List Deed} {sh : Shf} {tl : Int32} {ch : Int64 × Int64} {fn : Fnd} {n e : Int32} (hA : AbsC rw tx P ds sh tl ch fn I J) (hO : StOK rw tx P ds sh) : Ct X (d + 6) 66 M_X10_lots 66 [.ref 0, .int n, .int e] (I, J, rf0) (RI (fun y9 m => ∃ I', m = (I', J, rf0) ∧ FrC I I' ∧ y9 = (S_lots P ds n e).1 ∧ AbsC rw tx P (S_lots P ds n e).2 sh tl ch fn I' J)) := by
  have hP := hA.2.2.1
  have hQ := hO.2.2.1
  have h14 := hQ.2.1
  have h4 := hQ.1
  have hEv := hA.2.2.2.1
  have hD := hO.2.2.2.1
  have hl40 := hD.1
  have hE := hEv.2.2
  have hR : EvR (evO P ds) := EvR.e.run hQ hD.2
  have hr14 := hR.1
  show Go _ _ _ _ _ _ [_, _, _, _, _, _] _ _ _
  refine g_iload_n dX10_lots_0 rfl ?_
  refine g_iconst (v := 1) dX10_lots_1 (by decide) ?_
  refine g_icmp_lt (tgt := 23) dX10_lots_2 (by decide) (fun c2 => ?_) (fun c2 => ?_)
  · skip
    refine g_iconst (v := -1) dX10_lots_23 (by decide) ?_
    refine g_iret dX10_lots_24 (fun ty h => by cases h; rfl) ?_
    have hS : S_lots P ds n e = (-1, ds) := by
      unfold S_lots
      rw [if_neg (fun q => by
        first
          | exact absurd q.1.1 (Int32.not_le.mpr c2)
          | exact absurd q.1.2 (Int32.not_le.mpr c8)
          | exact absurd q.2.1 (Int32.not_le.mpr c13)
          | exact absurd q.2.2 c20)]
    exact ⟨_, rfl, FrC.rf, by rw [hS], by rw [hS]; exact hA⟩
  · skip
    refine g_iload_n dX10_lots_5 rfl ?_
    refine g_bipush (v := 20) dX10_lots_6 (by decide) ?_
    refine g_icmp_gt (tgt := 23) dX10_lots_8 (by decide) (fun c8 => ?_) (fun c8 => ?_)
    · skip
      refine g_iconst (v := -1) dX10_lots_23 (by decide) ?_
      refine g_iret dX10_lots_24 (fun ty h => by cases h; rfl) ?_
      have hS : S_lots P ds n e = (-1, ds) := by
        unfold S_lots
        rw [if_neg (fun q => by
          first
            | exact absurd q.1.1 (Int32.not_le.mpr c2)
            | exact absurd q.1.2 (Int32.not_le.mpr c8)
            | exact absurd q.2.1 (Int32.not_le.mpr c13)
            | exact absurd q.2.2 c20)]
      exact ⟨_, rfl, FrC.rf, by rw [hS], by rw [hS]; exact hA⟩
    · skip
      refine g_iload_n dX10_lots_11 rfl ?_
      refine g_iconst (v := 1) dX10_lots_12 (by decide) ?_
      refine g_icmp_lt (tgt := 23) dX10_lots_13 (by decide) (fun c13 => ?_) (fun c13 => ?_)
      · skip
        refine g_iconst (v := -1) dX10_lots_23 (by decide) ?_
        refine g_iret dX10_lots_24 (fun ty h => by cases h; rfl) ?_
        have hS : S_lots P ds n e = (-1, ds) := by
          unfold S_lots
          rw [if_neg (fun q => by
            first
              | exact absurd q.1.1 (Int32.not_le.mpr c2)
              | exact absurd q.1.2 (Int32.not_le.mpr c8)
              | exact absurd q.2.1 (Int32.not_le.mpr c13)
              | exact absurd q.2.2 c20)]
        exact ⟨_, rfl, FrC.rf, by rw [hS], by rw [hS]; exact hA⟩
      · skip
        refine g_iload_n dX10_lots_16 rfl ?_
        refine g_ldcw dX10_lots_17 tb_926 ?_
        refine g_icmp_le (tgt := 25) dX10_lots_20 (by decide) (fun c20 => ?_) (fun c20 => ?_)
        · skip
          obtain ⟨N, hN, rfl⟩ := lot_n (not_lt_le c2) (lot_b (m := 21) (not_lt_le c8) (by decide) (by decide)) (by decide)
          obtain ⟨sd, hsd, rfl⟩ := lot_n (not_lt_le c13) (lot_b (m := 2147483647) c20 (by decide) (by decide)) (by decide)
          have hcond : ((1 : Int32) ≤ nI N ∧ nI N ≤ 20) ∧ ((1 : Int32) ≤ nI sd ∧ nI sd ≤ 2147483646) := ⟨⟨not_lt_le c2, not_lt_le c8⟩, ⟨not_lt_le c13, c20⟩⟩
          refine g_aload_n dX10_lots_25 rfl ?_
          refine t_getR dX10_lots_26 fl_X10_44 rfl (by decide) rfl (by decide) rfl ?_
          refine g_callVi dX10_lots_29 ln_X10_187 ⟨_, rfl⟩ rfl (by decide) ⟨_, _, rfl⟩ rfl (Nat.le_of_ble_eq_true rfl) (Nat.le_of_ble_eq_true rfl) (ct_isOver hP hQ hE hR) rfl (fun r29 m29 h29 => ?_)
          obtain ⟨rfl, rfl⟩ := h29
          refine g_if_eq (tgt := 38) dX10_lots_32 (by decide) (fun c32 => ?_) (fun c32 => ?_)
          · skip
            refine g_iload_n dX10_lots_38 rfl ?_
            refine g_istore_n dX10_lots_39 (by decide) ?_
            show Go _ _ _ _ _ _ [_, _, _, _, _, _] _ _ _
            refine g_iconst (v := 0) dX10_lots_40 (by decide) ?_
            refine g_istore dX10_lots_41 (by decide) ?_
            show Go _ _ _ _ _ _ [_, _, _, _, _, _] _ _ _
            refine g_iconst (v := 0) dX10_lots_43 (by decide) ?_
            refine g_istore dX10_lots_44 (by decide) ?_
            show Go _ _ _ _ _ _ [_, _, _, _, _, _] _ _ _
            have hnov : ¬ P.2.1 ≤ (evO P ds).1 := of_decide_eq_false (bI_eq c32)
            have hSl : S_lots P ds (nI N) (nI sd) = (nI (lo P N sd ds 0).1, (lo P N sd ds 0).2) := by unfold S_lots; rw [if_pos hcond, if_neg hnov, cl_nI (by omega), cl_nI (by omega)]
            refine go_rec (σ := ((Nat → Nat → Int32) × List Deed × Nat × Nat)) (fun k t => AbsC rw tx P t.2.1 sh tl ch fn t.1 J → StOK rw tx P t.2.1 sh → FrC I t.1 → t.2.2.1 < 2147483647 → t.2.2.2 + k = N → lo P k t.2.2.1 t.2.1 t.2.2.2 = lo P N sd ds 0 → Go X (d + 6) 66 M_X10_lots 66 46 [.ref 0, .int (nI N), .int (nI sd), .int (nI t.2.2.1), .int (nI t.2.2.2), .int (nI t.2.2.2)] [] (t.1, J, rf0) (RI (fun y9 m => ∃ I', m = (I', J, rf0) ∧ FrC I I' ∧ y9 = (S_lots P ds (nI N) (nI sd)).1 ∧ AbsC rw tx P (S_lots P ds (nI N) (nI sd)).2 sh tl ch fn I' J))) (fun k kk t hA2 hO2 hf2 hx2 hc2 hlo => ?_) (fun t hA2 hO2 hf2 hx2 hc2 hlo => ?_) N (I, ds, sd, 0) hA hO FrC.rf hsd (Nat.zero_add N) rfl
            · have hP2 := hA2.2.2.1
              have hEv2 := hA2.2.2.2.1
              have hR2 : EvR (evO P t.2.1) := EvR.e.run hQ hO2.2.2.2.1.2
              have hl2 := hO2.2.2.2.1.1
              refine g_iload dX10_lots_46 rfl ?_
              refine g_iload_n dX10_lots_48 rfl ?_
              refine g_icmp_ge (tgt := 118) dX10_lots_49 (by decide) (fun c49 => ?_) (fun c49 => ?_)
              · exact absurd (nI_lt (show t.2.2.2 < N by omega) (by omega)) (Int32.not_lt.mpr c49)
              · skip
                refine g_aload_n dX10_lots_52 rfl ?_
                refine t_getR dX10_lots_53 fl_X10_44 rfl (by decide) rfl (by decide) rfl ?_
                refine g_callVi dX10_lots_56 ln_X10_187 ⟨_, rfl⟩ rfl (by decide) ⟨_, _, rfl⟩ rfl (Nat.le_of_ble_eq_true rfl) (Nat.le_of_ble_eq_true rfl) (ct_isOver (s := evO P t.2.1) hP2 hQ hEv2.2.2 hR2) rfl (fun r56 m56 h56 => ?_)
                obtain ⟨rfl, rfl⟩ := h56
                refine g_if_ne (tgt := 118) dX10_lots_59 (by decide) (fun c59 => ?_) (fun c59 => ?_)
                · skip
                  refine g_iload dX10_lots_118 rfl ?_
                  refine g_iret dX10_lots_120 (fun ty h => by cases h; rfl) ?_
                  first
                    | (rw [lo_0] at hlo
                       exact ⟨_, rfl, hf2, by rw [hSl, ← hlo], by rw [hSl, ← hlo]; exact hA2⟩)
                    | (rw [lo_s, if_pos (Or.inl (of_decide_eq_true (bI_ne c59)))] at hlo
                       exact ⟨_, rfl, hf2, by rw [hSl, ← hlo], by rw [hSl, ← hlo]; exact hA2⟩)
                    | (rw [lo_s, if_pos (Or.inr (of_decide_eq_true (bI_ne c69)))] at hlo
                       exact ⟨_, rfl, hf2, by rw [hSl, ← hlo], by rw [hSl, ← hlo]; exact hA2⟩)
                    | fail "no way"
                · skip
                  refine g_aload_n dX10_lots_62 rfl ?_
                  refine t_getR dX10_lots_63 fl_X10_44 rfl (by decide) rfl (by decide) rfl ?_
                  refine g_callVi dX10_lots_66 ln_X10_191 ⟨_, rfl⟩ rfl (by decide) ⟨_, _, rfl⟩ rfl (Nat.le_of_ble_eq_true rfl) (Nat.le_of_ble_eq_true rfl) (ct_isFullC hEv2.1 (by omega)) rfl (fun r66 m66 h66 => ?_)
                  obtain ⟨rfl, rfl⟩ := h66
                  refine g_if_ne (tgt := 118) dX10_lots_69 (by decide) (fun c69 => ?_) (fun c69 => ?_)
                  · skip
                    refine g_iload dX10_lots_118 rfl ?_
                    refine g_iret dX10_lots_120 (fun ty h => by cases h; rfl) ?_
                    first
                      | (rw [lo_0] at hlo
                         exact ⟨_, rfl, hf2, by rw [hSl, ← hlo], by rw [hSl, ← hlo]; exact hA2⟩)
                      | (rw [lo_s, if_pos (Or.inl (of_decide_eq_true (bI_ne c59)))] at hlo
                         exact ⟨_, rfl, hf2, by rw [hSl, ← hlo], by rw [hSl, ← hlo]; exact hA2⟩)
                      | (rw [lo_s, if_pos (Or.inr (of_decide_eq_true (bI_ne c69)))] at hlo
                         exact ⟨_, rfl, hf2, by rw [hSl, ← hlo], by rw [hSl, ← hlo]; exact hA2⟩)
                      | fail "no way"
                  · skip
                    have hov := of_decide_eq_false (bI_eq c59)
                    have hfu := of_decide_eq_false (bI_eq c69)
                    have h2p : 2 ≤ P.1 := hQ.2.2.1.resolve_left (by omega)
                    refine g_ldc2 dX10_lots_72 tb_927 ?_
                    refine g_iload_n dX10_lots_75 rfl ?_
                    refine g_i2l dX10_lots_76 ?_
                    rw [nI_l (by omega), show (48271 : Int64) = lN 48271 from rfl]
                    refine g_lmul dX10_lots_77 ?_
                    rw [lN_mul]
                    refine g_ldc2 dX10_lots_78 tb_928 ?_
                    refine g_lrem dX10_lots_81 (by decide) ?_
                    rw [show (2147483647 : Int64) = lN 2147483647 from rfl, pk_lRem (by omega) (by decide) (by decide)]
                    refine g_l2i dX10_lots_82 ?_
                    rw [lN_i, show 48271 * t.2.2.1 % 2147483647 = nxL t.2.2.1 from rfl]
                    refine g_istore_n dX10_lots_83 (by decide) ?_
                    show Go _ _ _ _ _ _ [_, _, _, _, _, _] _ _ _
                    refine g_aload_n dX10_lots_84 rfl ?_
                    refine g_iload_n dX10_lots_85 rfl ?_
                    refine g_callVv dX10_lots_86 ln_X10_337 rfl rfl (by decide) ⟨_, _, rfl⟩ rfl (Nat.le_of_ble_eq_true rfl) (Nat.le_of_ble_eq_true rfl) (ct_slipByLot (ds := t.2.1) (x := nxL t.2.2.1) hA2 hO2 (Nat.lt_of_not_le hov) (Nat.lt_of_not_le hfu) (nxL_lt _)) rfl (fun m86 h86 => ?_)
                    obtain ⟨I3, rfl, hf3, hA3⟩ := h86
                    have hO3 := slD_ok (x := nxL t.2.2.1) hO2 (Nat.lt_of_not_le hfu) h2p
                    refine g_aload_n dX10_lots_89 rfl ?_
                    refine t_getR dX10_lots_90 fl_X10_44 rfl (by decide) rfl (by decide) rfl ?_
                    refine g_callVi dX10_lots_93 ln_X10_191 ⟨_, rfl⟩ rfl (by decide) ⟨_, _, rfl⟩ rfl (Nat.le_of_ble_eq_true rfl) (Nat.le_of_ble_eq_true rfl) (ct_isFullC hA3.2.2.2.1.1 (by have := hO3.2.2.2.1.1; omega)) rfl (fun r93 m93 h93 => ?_)
                    obtain ⟨rfl, rfl⟩ := h93
                    refine g_if_ne (tgt := 112) dX10_lots_96 (by decide) (fun c96 => ?_) (fun c96 => ?_)
                    · skip
                      refine g_iinc dX10_lots_112 rfl (by decide) ?_
                      show Go _ _ _ _ _ _ [_, _, _, _, _, _] _ _ _
                      refine g_goto (tgt := 46) dX10_lots_115 (by decide) ?_
                      rw [lo_s, if_neg (fun q => q.elim hov hfu)] at hlo
                      first
                        | (have hfu3 := of_decide_eq_true (bI_ne c96)
                           rw [if_pos hfu3] at hlo
                           refine lots_full hA3 hO3 hfu3 ?_
                           exact ⟨_, rfl, hf2.tr hf3, by rw [hSl, ← hlo], by rw [hSl, ← hlo]; exact hA3⟩)
                        | (rw [if_neg hfu3] at hlo
                           rw [nI_inc]
                           exact kk (I4, slD P t.2.1 (nxL t.2.2.1) ++ [(0, 0, 0)], nxL t.2.2.1, t.2.2.2 + 1) hA4 (hO3.ds (hO3.2.2.2.1.app (Nat.lt_of_not_le hfu3) hok3)) ((hf2.tr hf3).tr (FrC.of hf4 (by decide))) (nxL_lt _) (by show t.2.2.2 + 1 + k = N; omega) hlo)
                        | fail "no way"
                    · skip
                      have hfu3 := of_decide_eq_false (bI_eq c96)
                      have hok3 : evOK P (evO P (slD P t.2.1 (nxL t.2.2.1))) (0, 0, 0) := ⟨by rw [slD_at]; exact Nat.lt_of_not_le hov, rfl, rfl⟩
                      refine g_aload_n dX10_lots_99 rfl ?_
                      refine t_getR dX10_lots_100 fl_X10_44 rfl (by decide) rfl (by decide) rfl ?_
                      refine g_iconst (v := 0) dX10_lots_103 (by decide) ?_
                      refine g_iconst (v := 0) dX10_lots_104 (by decide) ?_
                      refine g_iconst (v := 0) dX10_lots_105 (by decide) ?_
                      refine g_callVv dX10_lots_106 ln_X10_197 rfl rfl (by decide) ⟨_, _, rfl⟩ rfl (Nat.le_of_ble_eq_true rfl) (Nat.le_of_ble_eq_true rfl) (ct_act (k := 0) (p := 0) (w := 0) hA3.2.2.1 hQ hA3.2.2.2.1 hO3.2.2.2.1 (Nat.lt_of_not_le hfu3) hok3) rfl (fun m106 h106 => ?_)
                      obtain ⟨I4, rfl, hf4, hE4⟩ := h106
                      have hA4 := hA3.upEv hf4 hE4
                      refine g_iinc dX10_lots_109 rfl (by decide) ?_
                      show Go _ _ _ _ _ _ [_, _, _, _, _, _] _ _ _
                      refine g_iinc dX10_lots_112 rfl (by decide) ?_
                      show Go _ _ _ _ _ _ [_, _, _, _, _, _] _ _ _
                      refine g_goto (tgt := 46) dX10_lots_115 (by decide) ?_
                      rw [lo_s, if_neg (fun q => q.elim hov hfu)] at hlo
                      first
                        | (have hfu3 := of_decide_eq_true (bI_ne c96)
                           rw [if_pos hfu3] at hlo
                           refine lots_full hA3 hO3 hfu3 ?_
                           exact ⟨_, rfl, hf2.tr hf3, by rw [hSl, ← hlo], by rw [hSl, ← hlo]; exact hA3⟩)
                        | (rw [if_neg hfu3] at hlo
                           rw [nI_inc]
                           exact kk (I4, slD P t.2.1 (nxL t.2.2.1) ++ [(0, 0, 0)], nxL t.2.2.1, t.2.2.2 + 1) hA4 (hO3.ds (hO3.2.2.2.1.app (Nat.lt_of_not_le hfu3) hok3)) ((hf2.tr hf3).tr (FrC.of hf4 (by decide))) (nxL_lt _) (by show t.2.2.2 + 1 + k = N; omega) hlo)
                        | fail "no way"
            · have hP2 := hA2.2.2.1
              have hEv2 := hA2.2.2.2.1
              have hR2 : EvR (evO P t.2.1) := EvR.e.run hQ hO2.2.2.2.1.2
              have hl2 := hO2.2.2.2.1.1
              refine g_iload dX10_lots_46 rfl ?_
              refine g_iload_n dX10_lots_48 rfl ?_
              refine g_icmp_ge (tgt := 118) dX10_lots_49 (by decide) (fun c49 => ?_) (fun c49 => ?_)
              · skip
                refine g_iload dX10_lots_118 rfl ?_
                refine g_iret dX10_lots_120 (fun ty h => by cases h; rfl) ?_
                first
                  | (rw [lo_0] at hlo
                     exact ⟨_, rfl, hf2, by rw [hSl, ← hlo], by rw [hSl, ← hlo]; exact hA2⟩)
                  | (rw [lo_s, if_pos (Or.inl (of_decide_eq_true (bI_ne c59)))] at hlo
                     exact ⟨_, rfl, hf2, by rw [hSl, ← hlo], by rw [hSl, ← hlo]; exact hA2⟩)
                  | (rw [lo_s, if_pos (Or.inr (of_decide_eq_true (bI_ne c69)))] at hlo
                     exact ⟨_, rfl, hf2, by rw [hSl, ← hlo], by rw [hSl, ← hlo]; exact hA2⟩)
                  | fail "no way"
              · exact absurd (nI_le (show N ≤ t.2.2.2 by omega) (by omega)) c49
          · skip
            refine g_bipush (v := -4) dX10_lots_35 (by decide) ?_
            refine g_iret dX10_lots_37 (fun ty h => by cases h; rfl) ?_
            have hS : S_lots P ds (nI N) (nI sd) = (-4, ds) := by unfold S_lots; rw [if_pos hcond, if_pos (of_decide_eq_true (bI_ne c32))]
            exact ⟨_, rfl, FrC.rf, by rw [hS], by rw [hS]; exact hA⟩
        · skip
          refine g_iconst (v := -1) dX10_lots_23 (by decide) ?_
          refine g_iret dX10_lots_24 (fun ty h => by cases h; rfl) ?_
          have hS : S_lots P ds n e = (-1, ds) := by
            unfold S_lots
            rw [if_neg (fun q => by
              first
                | exact absurd q.1.1 (Int32.not_le.mpr c2)
                | exact absurd q.1.2 (Int32.not_le.mpr c8)
                | exact absurd q.2.1 (Int32.not_le.mpr c13)
                | exact absurd q.2.2 c20)]
          exact ⟨_, rfl, FrC.rf, by rw [hS], by rw [hS]; exact hA⟩
end
