section
variable {X : Nat × (Nat → Int32)} {d : Nat} {I : Nat → Nat → Int32} {J : Nat → Nat → Int64}
/-! ===== promises 15 to 25, model side ===== -/
theorem FrM.of {l : List Nat} {I' : Nat → Nat → Int32} (h : Fr l I I') (hl : ∀ k ∈ l, 48 ≤ k) : FrM I I' := fun k hk => h k (fun q => by have := hl k q; omega)
theorem inJ_22 {z : Int} (hz : -100 ≤ z ∧ z ≤ 100) : inJ (zI z).toInt64 (-2) 2 = decide (-2 ≤ z ∧ z ≤ 2) := by
  have z1 : (-2 : Int64).toInt = -2 := by decide
  have z2 : (2 : Int64).toInt = 2 := by decide
  unfold inJ
  exact decide_eq_decide.mpr (by rw [Int64.le_iff_toInt_le, Int64.le_iff_toInt_le, Int32.toInt_toInt64, z_int (by omega), z1, z2])
theorem inJ_n {i : Int32} {c : Nat} (hc : c < 2 ^ 30) : inJ i.toInt64 0 ((nI c).toInt64) = inR i (c + 1) := by
  rw [← nI_pred c, inJ_sz (by omega)]
theorem AbsM.upSh {rw tx : Tab} {P : Pce} {ds : List Deed} {sh : Shf} {tl : Int32} {ch : Int64 × Int64} {fn : Fnd} {sh' : Shf} {I' : Nat → Nat → Int32} (h : AbsM rw tx P ds sh tl ch fn I J) (hf : Fr [58, 59] I I') (h58 : I' 58 0 = I 58 0) (h59 : ∀ q, q < 120 → I' 59 q = I 59 q) (hl : ds.length ≤ 40) (h1 : ShM sh' I') : AbsM rw tx P ds sh' tl ch fn I' J :=
  ⟨h.1.keep (hf 49 (by decide)) (fun _ _ => hf 50 (by decide)), h.2.1.keep (hf 51 (by decide)) (fun _ _ => hf 52 (by decide)), h.2.2.1.keep (by rw [hf 48 (by decide)]) (by rw [hf 48 (by decide)]) (hf 54 (by decide)) (hf 55 (by decide)),
   ⟨by rw [h58]; exact h.2.2.2.1.1, fun i d' hd' => by
      have hi := (List.getElem?_eq_some_iff.mp hd').1
      have := h.2.2.2.1.2.1 i d' hd'
      rw [h59 _ (by omega), h59 _ (by omega), h59 _ (by omega)]
      exact this, by rw [hf 48 (by decide)]; exact h.2.2.2.1.2.2.1, by rw [hf 48 (by decide)]; exact h.2.2.2.1.2.2.2.1, by rw [hf 48 (by decide)]; exact h.2.2.2.1.2.2.2.2.1, h.2.2.2.1.2.2.2.2.2.1.keep (hf 60 (by decide)), fun t ht => by rw [hf 61 (by decide)]; exact h.2.2.2.1.2.2.2.2.2.2 t ht⟩,
   h1, by rw [hf 48 (by decide)]; exact h.2.2.2.2.2.1, h.2.2.2.2.2.2.1, by rw [hf 48 (by decide)]; exact h.2.2.2.2.2.2.2.1, fun j hj => by rw [hf 62 (by decide)]; exact h.2.2.2.2.2.2.2.2 j hj⟩
theorem RwM.hrd {t : Tab} {j : Nat} {s : Evs} {g : Nat → Int32} (h : RwM t I) (hO : TabOK 6 40 t) (hj : j < 6) (hc : s.1 - s.2.1 ≤ 40) (hg : ∀ i, i < s.1 - s.2.1 → g (40 * j + i) = nI (s.2.2.2 (s.2.1 + i))) (hg2 : ∀ q, (q < 40 * j ∨ 40 * j + (s.1 - s.2.1) ≤ q) → g q = I 50 q) : RwM (tabHrd t j s) (upR (upR I 49 (upd (I 49) j (nI (s.1 - s.2.1)))) 50 g) := by
  intro r hr
  refine ⟨?_, fun c' hc' i hi => ?_⟩
  · rw [upR_n (by decide), upR_s]
    by_cases e : r = j
    · subst e; rw [pk_us]; show nI (s.1 - s.2.1) = szI (upR t.1 r (some (s.1 - s.2.1)) r); rw [upR_s]; rfl
    · rw [pk_un e]; show _ = szI (upR t.1 j (some (s.1 - s.2.1)) r); rw [upR_n e]; exact (h r hr).1
  · rw [upR_s]
    by_cases e : r = j
    · subst e
      rw [show (tabHrd t r s).1 r = some (s.1 - s.2.1) from upR_s] at hc'
      cases hc'
      show g (40 * r + i) = upR t.2 r (fun i => nI (s.2.2.2 (s.2.1 + i))) r i
      rw [upR_s, hg i hi]
    · rw [show (tabHrd t j s).1 r = t.1 r from upR_n e] at hc'
      have hb := hO r hr c' hc'
      show g (40 * r + i) = upR t.2 j (fun i => nI (s.2.2.2 (s.2.1 + i))) r i
      rw [upR_n e, hg2 _ (by omega)]
      exact (h r hr).2 c' hc' i hi
theorem pm_play {rw tx : Tab} {P : Pce} {ds : List Deed} {sh : Shf} {tl : Int32} {ch : Int64 × Int64} {fn : Fnd} (hA : AbsM rw tx P ds sh tl ch fn I J) (hO : StOK rw tx P ds sh) : Ct X (d + 7) 66 M_X11_play 66 [.ref 48] (I, J, rf0) (RI (fun y9 m => ∃ I', m = (I', J, rf0) ∧ FrM I I' ∧ y9 = (S_play P ds).1 ∧ AbsM rw tx P (S_play P ds).2 sh tl ch fn I' J)) := by
  have hP := hA.2.2.1
  have hQ := hO.2.2.1
  have h14 := hQ.2.1
  have h4 := hQ.1
  have hEv := hA.2.2.2.1
  have hD := hO.2.2.2.1
  have hl40 := hD.1
  have hE := hEv.2.2
  have hR : EvR (evO P ds) := EvR.e.run hQ hD.2
  have hr14 := hR.1
  have hr2 := hR.2.1
  show Go _ _ _ _ _ _ [_] _ _ _
  refine g_aload_n dX11_play_0 rfl ?_
  refine t_getI dX11_play_1 fl_X11_176 rfl (by decide) rfl (by decide) ?_
  rw [hE.1]
  refine g_aload_n dX11_play_4 rfl ?_
  refine t_getI dX11_play_5 fl_X11_119 rfl (by decide) rfl (by decide) ?_
  rw [hP.2.1]
  refine g_icmp_lt (tgt := 14) dX11_play_8 (by decide) (fun c8 => ?_) (fun c8 => ?_)
  · skip
    have hlt := (nI_ltI (show (evO P ds).1 < 2 ^ 31 by omega) (show P.2.1 < 2 ^ 31 by omega)).mp c8
    have hok : evOK P (evO P ds) (0, 0, 0) := ⟨hlt, rfl, rfl⟩
    refine g_aload_n dX11_play_14 rfl ?_
    refine g_callVi dX11_play_15 ln_X11_192 ⟨_, rfl⟩ rfl (by decide) ⟨_, _, rfl⟩ rfl (Nat.le_of_ble_eq_true rfl) (Nat.le_of_ble_eq_true rfl) (ct_isFullM hEv.1 hl40) rfl (fun r15 m15 h15 => ?_)
    obtain ⟨rfl, rfl⟩ := h15
    refine g_if_eq (tgt := 24) dX11_play_18 (by decide) (fun c18 => ?_) (fun c18 => ?_)
    · skip
      refine g_aload_n dX11_play_24 rfl ?_
      refine g_iconst (v := 0) dX11_play_25 (by decide) ?_
      refine g_iconst (v := 0) dX11_play_26 (by decide) ?_
      refine g_iconst (v := 0) dX11_play_27 (by decide) ?_
      refine g_callVv dX11_play_28 ln_X11_196 rfl rfl (by decide) ⟨_, _, rfl⟩ rfl (Nat.le_of_ble_eq_true rfl) (Nat.le_of_ble_eq_true rfl) (ct_does (e := (0, 0, 0)) hP hQ hEv hD (by have := of_decide_eq_false (bI_eq c18); omega) hok (howM_n (e := (0, 0, 0)) (by decide)).symm) rfl (fun m28 h28 => ?_)
      obtain ⟨I1, rfl, hf1, h01, h581, h591, hE1⟩ := h28
      have hEs : EsM (evStep P (evO P ds) (0, 0, 0)) I1 := by have := hE1.2.2; rwa [show evO P (ds ++ [(0, 0, 0)]) = evStep P (evO P ds) (0, 0, 0) from evRun_app P evE ds [(0, 0, 0)]] at this
      have h17 : I1 48 17 = nI ((evO P ds).1 - (evO P ds).2.1 + 1) := by
        rw [hEs.2.2.1]
        show nI ((evO P ds).1 + 1 - (evO P ds).2.1) = _
        rw [show (evO P ds).1 + 1 - (evO P ds).2.1 = (evO P ds).1 - (evO P ds).2.1 + 1 by omega]
      refine g_aload_n dX11_play_31 rfl ?_
      refine t_getR dX11_play_32 fl_X11_47 rfl (by decide) rfl (by decide) rfl ?_
      refine g_aload_n dX11_play_35 rfl ?_
      refine t_getI dX11_play_36 fl_X11_182 rfl (by decide) rfl (by decide) ?_
      rw [h17]
      refine g_iconst (v := 1) dX11_play_39 (by decide) ?_
      refine g_isub dX11_play_40 ?_
      rw [nI_pred]
      refine t_iald dX11_play_41 rfl (by decide) (in_nI (by omega) (by decide)) ?_
      refine g_iret dX11_play_42 (fun ty h => by cases h; rfl) ?_
      have hS : S_play P ds = (nI (hrS P (evO P ds).2.2.1 (evO P ds).1), ds ++ [(0, 0, 0)]) := by unfold S_play; rw [if_neg (by omega), if_neg (of_decide_eq_false (bI_eq c18))]
      refine ⟨_, rfl, (FrM.of hf1 (by decide)), ?_, by rw [hS]; exact hA.upEv hf1 h01 h581 h591 hE1⟩
      rw [hS, cl_nI (by omega), hEs.2.2.2.2 _ (show (evO P ds).1 - (evO P ds).2.1 < (evO P ds).1 + 1 - (evO P ds).2.1 by omega)]
      show nI (upR (evO P ds).2.2.2 (evO P ds).1 (hrS P (evO P ds).2.2.1 (evO P ds).1) ((evO P ds).2.1 + ((evO P ds).1 - (evO P ds).2.1))) = _
      rw [show (evO P ds).2.1 + ((evO P ds).1 - (evO P ds).2.1) = (evO P ds).1 by omega, upR_s]
    · skip
      refine g_bipush (v := -2) dX11_play_21 (by decide) ?_
      refine g_iret dX11_play_23 (fun ty h => by cases h; rfl) ?_
      have hS : S_play P ds = (-2, ds) := by unfold S_play; rw [if_neg (by omega), if_pos (of_decide_eq_true (bI_ne c18))]
      exact ⟨_, rfl, FrM.rf, by rw [hS], by rw [hS]; exact hA⟩
  · skip
    refine g_bipush (v := -4) dX11_play_11 (by decide) ?_
    refine g_iret dX11_play_13 (fun ty h => by cases h; rfl) ?_
    have hS : S_play P ds = (-4, ds) := by unfold S_play; rw [if_pos (Nat.le_of_not_lt (fun q => c8 (nI_lt q (by omega))))]
    exact ⟨_, rfl, FrM.rf, by rw [hS], by rw [hS]; exact hA⟩
theorem pm_slip {rw tx : Tab} {P : Pce} {ds : List Deed} {sh : Shf} {tl : Int32} {ch : Int64 × Int64} {fn : Fnd} {p e : Int32} (hA : AbsM rw tx P ds sh tl ch fn I J) (hO : StOK rw tx P ds sh) : Ct X (d + 7) 66 M_X11_slip 66 [.ref 48, .int p, .int e] (I, J, rf0) (RI (fun y9 m => ∃ I', m = (I', J, rf0) ∧ FrM I I' ∧ y9 = (S_slip P ds p e).1 ∧ AbsM rw tx P (S_slip P ds p e).2 sh tl ch fn I' J)) := by
  have hP := hA.2.2.1
  have hQ := hO.2.2.1
  have h14 := hQ.2.1
  have h4 := hQ.1
  have hEv := hA.2.2.2.1
  have hD := hO.2.2.2.1
  have hl40 := hD.1
  have hE := hEv.2.2
  have hR : EvR (evO P ds) := EvR.e.run hQ hD.2
  have hr14 := hR.1
  have hr2 := hR.2.1
  show Go _ _ _ _ _ _ [_, _, _] _ _ _
  refine g_aload_n dX11_slip_0 rfl ?_
  refine g_iload_n dX11_slip_1 rfl ?_
  refine g_callVi dX11_slip_2 ln_X11_157 ⟨_, rfl⟩ rfl (by decide) ⟨_, _, rfl⟩ rfl (Nat.le_of_ble_eq_true rfl) (Nat.le_of_ble_eq_true rfl) (ct_isPlayer hP hQ) rfl (fun r2 m2 h2 => ?_)
  obtain ⟨rfl, rfl⟩ := h2
  refine g_if_eq (tgt := 18) dX11_slip_5 (by decide) (fun c5 => ?_) (fun c5 => ?_)
  · skip
    refine g_iconst (v := -1) dX11_slip_18 (by decide) ?_
    refine g_iret dX11_slip_19 (fun ty h => by cases h; rfl) ?_
    first
      | (have hS : S_slip P ds p e = (-1, ds) := by unfold S_slip; rw [bI_eq c5]; rfl
         exact ⟨_, rfl, FrM.rf, by rw [hS], by rw [hS]; exact hA⟩)
      | (have hS : S_slip P ds (nI p) e = (-1, ds) := by unfold S_slip; rw [decide_eq_false c10, decide_eq_false c15, Bool.or_false, Bool.and_false]; rfl
         exact ⟨_, rfl, FrM.rf, by rw [hS], by rw [hS]; exact hA⟩)
      | fail "no way"
  · skip
    obtain ⟨p, hp, rfl⟩ := inR_ix (by omega) (bI_ne c5)
    refine g_iload_n dX11_slip_8 rfl ?_
    refine g_iconst (v := 1) dX11_slip_9 (by decide) ?_
    refine g_icmp_eq (tgt := 20) dX11_slip_10 (by decide) (fun c10 => ?_) (fun c10 => ?_)
    · skip
      obtain ⟨z, hz, rfl⟩ : ∃ z : Int, (z = -1 ∨ z = 1) ∧ e = zI z := by
        first
          | exact ⟨1, Or.inr rfl, by rw [c10]; rfl⟩
          | exact ⟨-1, Or.inl rfl, by rw [c15]; decide⟩
          | fail "no way"
      have hdi : (zI z).toInt = z := z_int (by omega)
      have hdb : (decide (zI z = -1) || decide (zI z = 1)) = true := by
        rcases hz with rfl | rfl <;> decide
      have hrp := hR.2.2.1 p (by omega)
      refine g_aload_n dX11_slip_20 rfl ?_
      refine t_getR dX11_slip_21 fl_X11_44 rfl (by decide) rfl (by decide) rfl ?_
      refine g_iload_n dX11_slip_24 rfl ?_
      refine t_iald dX11_slip_25 rfl (by decide) (in_nI (by omega) (by decide)) ?_
      rw [cl_nI (by omega), hE.2.2.2.1 p (by omega)]
      refine g_iload_n dX11_slip_26 rfl ?_
      refine g_iadd dX11_slip_27 ?_
      rw [z_add]
      refine g_i2l dX11_slip_28 ?_
      refine g_ldc2 dX11_slip_29 tb_1251 ?_
      refine g_ldc2 dX11_slip_32 tb_1187 ?_
      refine g_callSi dX11_slip_35 ln_X11_76 ⟨_, rfl⟩ rfl (Nat.le_of_ble_eq_true rfl) (Nat.le_of_ble_eq_true rfl) ct_in rfl (fun r35 m35 h35 => ?_)
      obtain ⟨rfl, rfl⟩ := h35
      rw [inJ_22 (by omega)]
      refine g_if_ne (tgt := 44) dX11_slip_38 (by decide) (fun c38 => ?_) (fun c38 => ?_)
      · skip
        refine g_aload_n dX11_slip_44 rfl ?_
        refine g_callVi dX11_slip_45 ln_X11_192 ⟨_, rfl⟩ rfl (by decide) ⟨_, _, rfl⟩ rfl (Nat.le_of_ble_eq_true rfl) (Nat.le_of_ble_eq_true rfl) (ct_isFullM hEv.1 hl40) rfl (fun r45 m45 h45 => ?_)
        obtain ⟨rfl, rfl⟩ := h45
        refine g_if_eq (tgt := 54) dX11_slip_48 (by decide) (fun c48 => ?_) (fun c48 => ?_)
        · skip
          have hcs := of_decide_eq_true (bI_ne c38)
          have hok : evOK P (evO P ds) (1, p, (z + 1).toNat) := ⟨hp, by show (z + 1).toNat = 0 ∨ (z + 1).toNat = 2; omega, by show -2 ≤ (evO P ds).2.2.1 p + ((z + 1).toNat : Int) - 1; omega, by show (evO P ds).2.2.1 p + ((z + 1).toNat : Int) - 1 ≤ 2; omega⟩
          have hhow : zI z = howM (1, p, (z + 1).toNat) := by
            rw [howM_1 (e := (1, p, (z + 1).toNat)) rfl, show (((1, p, (z + 1).toNat) : Deed).2.2 : Int) - 1 = z by show (((z + 1).toNat : Nat) : Int) - 1 = z; omega]
          refine g_aload_n dX11_slip_54 rfl ?_
          refine g_iconst (v := 1) dX11_slip_55 (by decide) ?_
          refine g_iload_n dX11_slip_56 rfl ?_
          refine g_iload_n dX11_slip_57 rfl ?_
          refine g_callVv dX11_slip_58 ln_X11_196 rfl rfl (by decide) ⟨_, _, rfl⟩ rfl (Nat.le_of_ble_eq_true rfl) (Nat.le_of_ble_eq_true rfl) (ct_does (e := (1, p, (z + 1).toNat)) hP hQ hEv hD (by have := of_decide_eq_false (bI_eq c48); omega) hok hhow) rfl (fun m58 h58 => ?_)
          obtain ⟨I1, rfl, hf1, h01, h581, h591, hE1⟩ := h58
          have hEs : EsM (evStep P (evO P ds) (1, p, (z + 1).toNat)) I1 := by have := hE1.2.2; rwa [show evO P (ds ++ [(1, p, (z + 1).toNat)]) = evStep P (evO P ds) (1, p, (z + 1).toNat) from evRun_app P evE ds [(1, p, (z + 1).toNat)]] at this
          refine g_aload_n dX11_slip_61 rfl ?_
          refine t_getR dX11_slip_62 fl_X11_44 rfl (by decide) rfl (by decide) rfl ?_
          refine g_iload_n dX11_slip_65 rfl ?_
          refine t_iald dX11_slip_66 rfl (by decide) (in_nI (by omega) (by decide)) ?_
          rw [cl_nI (by omega), hEs.2.2.2.1 p (by omega)]
          refine g_iconst (v := 2) dX11_slip_67 (by decide) ?_
          refine g_iadd dX11_slip_68 ?_
          refine g_iret dX11_slip_69 (fun ty h => by cases h; rfl) ?_
          have hS : S_slip P ds (nI p) (zI z) = (zI ((evO P ds).2.2.1 p + z + 2), ds ++ [(1, p, (z + 1).toNat)]) := by unfold S_slip; rw [inR_nI (by omega) hp, hdb, hdi, cl_nI (by omega)]; exact (if_pos hcs).trans (if_neg (of_decide_eq_false (bI_eq c48)))
          refine ⟨_, rfl, (FrM.of hf1 (by decide)), ?_, by rw [hS]; exact hA.upEv hf1 h01 h581 h591 hE1⟩
          rw [hS]
          show zI (upR (evO P ds).2.2.1 p ((evO P ds).2.2.1 p + ((z + 1).toNat : Int) - 1) p) + 2 = zI ((evO P ds).2.2.1 p + z + 2)
          rw [upR_s, show (2 : Int32) = zI 2 from rfl, z_add, show (evO P ds).2.2.1 p + ((z + 1).toNat : Int) - 1 + 2 = (evO P ds).2.2.1 p + z + 2 by omega]
        · skip
          refine g_bipush (v := -2) dX11_slip_51 (by decide) ?_
          refine g_iret dX11_slip_53 (fun ty h => by cases h; rfl) ?_
          have hS : S_slip P ds (nI p) (zI z) = (-2, ds) := by unfold S_slip; rw [inR_nI (by omega) hp, hdb, hdi, cl_nI (by omega)]; exact (if_pos (of_decide_eq_true (bI_ne c38))).trans (if_pos (of_decide_eq_true (bI_ne c48)))
          exact ⟨_, rfl, FrM.rf, by rw [hS], by rw [hS]; exact hA⟩
      · skip
        refine g_bipush (v := -4) dX11_slip_41 (by decide) ?_
        refine g_iret dX11_slip_43 (fun ty h => by cases h; rfl) ?_
        have hS : S_slip P ds (nI p) (zI z) = (-4, ds) := by unfold S_slip; rw [inR_nI (by omega) hp, hdb, hdi, cl_nI (by omega)]; exact if_neg (of_decide_eq_false (bI_eq c38))
        exact ⟨_, rfl, FrM.rf, by rw [hS], by rw [hS]; exact hA⟩
    · skip
      refine g_iload_n dX11_slip_13 rfl ?_
      refine g_iconst (v := -1) dX11_slip_14 (by decide) ?_
      refine g_icmp_eq (tgt := 20) dX11_slip_15 (by decide) (fun c15 => ?_) (fun c15 => ?_)
      · skip
        obtain ⟨z, hz, rfl⟩ : ∃ z : Int, (z = -1 ∨ z = 1) ∧ e = zI z := by
          first
            | exact ⟨1, Or.inr rfl, by rw [c10]; rfl⟩
            | exact ⟨-1, Or.inl rfl, by rw [c15]; decide⟩
            | fail "no way"
        have hdi : (zI z).toInt = z := z_int (by omega)
        have hdb : (decide (zI z = -1) || decide (zI z = 1)) = true := by
          rcases hz with rfl | rfl <;> decide
        have hrp := hR.2.2.1 p (by omega)
        refine g_aload_n dX11_slip_20 rfl ?_
        refine t_getR dX11_slip_21 fl_X11_44 rfl (by decide) rfl (by decide) rfl ?_
        refine g_iload_n dX11_slip_24 rfl ?_
        refine t_iald dX11_slip_25 rfl (by decide) (in_nI (by omega) (by decide)) ?_
        rw [cl_nI (by omega), hE.2.2.2.1 p (by omega)]
        refine g_iload_n dX11_slip_26 rfl ?_
        refine g_iadd dX11_slip_27 ?_
        rw [z_add]
        refine g_i2l dX11_slip_28 ?_
        refine g_ldc2 dX11_slip_29 tb_1251 ?_
        refine g_ldc2 dX11_slip_32 tb_1187 ?_
        refine g_callSi dX11_slip_35 ln_X11_76 ⟨_, rfl⟩ rfl (Nat.le_of_ble_eq_true rfl) (Nat.le_of_ble_eq_true rfl) ct_in rfl (fun r35 m35 h35 => ?_)
        obtain ⟨rfl, rfl⟩ := h35
        rw [inJ_22 (by omega)]
        refine g_if_ne (tgt := 44) dX11_slip_38 (by decide) (fun c38 => ?_) (fun c38 => ?_)
        · skip
          refine g_aload_n dX11_slip_44 rfl ?_
          refine g_callVi dX11_slip_45 ln_X11_192 ⟨_, rfl⟩ rfl (by decide) ⟨_, _, rfl⟩ rfl (Nat.le_of_ble_eq_true rfl) (Nat.le_of_ble_eq_true rfl) (ct_isFullM hEv.1 hl40) rfl (fun r45 m45 h45 => ?_)
          obtain ⟨rfl, rfl⟩ := h45
          refine g_if_eq (tgt := 54) dX11_slip_48 (by decide) (fun c48 => ?_) (fun c48 => ?_)
          · skip
            have hcs := of_decide_eq_true (bI_ne c38)
            have hok : evOK P (evO P ds) (1, p, (z + 1).toNat) := ⟨hp, by show (z + 1).toNat = 0 ∨ (z + 1).toNat = 2; omega, by show -2 ≤ (evO P ds).2.2.1 p + ((z + 1).toNat : Int) - 1; omega, by show (evO P ds).2.2.1 p + ((z + 1).toNat : Int) - 1 ≤ 2; omega⟩
            have hhow : zI z = howM (1, p, (z + 1).toNat) := by
              rw [howM_1 (e := (1, p, (z + 1).toNat)) rfl, show (((1, p, (z + 1).toNat) : Deed).2.2 : Int) - 1 = z by show (((z + 1).toNat : Nat) : Int) - 1 = z; omega]
            refine g_aload_n dX11_slip_54 rfl ?_
            refine g_iconst (v := 1) dX11_slip_55 (by decide) ?_
            refine g_iload_n dX11_slip_56 rfl ?_
            refine g_iload_n dX11_slip_57 rfl ?_
            refine g_callVv dX11_slip_58 ln_X11_196 rfl rfl (by decide) ⟨_, _, rfl⟩ rfl (Nat.le_of_ble_eq_true rfl) (Nat.le_of_ble_eq_true rfl) (ct_does (e := (1, p, (z + 1).toNat)) hP hQ hEv hD (by have := of_decide_eq_false (bI_eq c48); omega) hok hhow) rfl (fun m58 h58 => ?_)
            obtain ⟨I1, rfl, hf1, h01, h581, h591, hE1⟩ := h58
            have hEs : EsM (evStep P (evO P ds) (1, p, (z + 1).toNat)) I1 := by have := hE1.2.2; rwa [show evO P (ds ++ [(1, p, (z + 1).toNat)]) = evStep P (evO P ds) (1, p, (z + 1).toNat) from evRun_app P evE ds [(1, p, (z + 1).toNat)]] at this
            refine g_aload_n dX11_slip_61 rfl ?_
            refine t_getR dX11_slip_62 fl_X11_44 rfl (by decide) rfl (by decide) rfl ?_
            refine g_iload_n dX11_slip_65 rfl ?_
            refine t_iald dX11_slip_66 rfl (by decide) (in_nI (by omega) (by decide)) ?_
            rw [cl_nI (by omega), hEs.2.2.2.1 p (by omega)]
            refine g_iconst (v := 2) dX11_slip_67 (by decide) ?_
            refine g_iadd dX11_slip_68 ?_
            refine g_iret dX11_slip_69 (fun ty h => by cases h; rfl) ?_
            have hS : S_slip P ds (nI p) (zI z) = (zI ((evO P ds).2.2.1 p + z + 2), ds ++ [(1, p, (z + 1).toNat)]) := by unfold S_slip; rw [inR_nI (by omega) hp, hdb, hdi, cl_nI (by omega)]; exact (if_pos hcs).trans (if_neg (of_decide_eq_false (bI_eq c48)))
            refine ⟨_, rfl, (FrM.of hf1 (by decide)), ?_, by rw [hS]; exact hA.upEv hf1 h01 h581 h591 hE1⟩
            rw [hS]
            show zI (upR (evO P ds).2.2.1 p ((evO P ds).2.2.1 p + ((z + 1).toNat : Int) - 1) p) + 2 = zI ((evO P ds).2.2.1 p + z + 2)
            rw [upR_s, show (2 : Int32) = zI 2 from rfl, z_add, show (evO P ds).2.2.1 p + ((z + 1).toNat : Int) - 1 + 2 = (evO P ds).2.2.1 p + z + 2 by omega]
          · skip
            refine g_bipush (v := -2) dX11_slip_51 (by decide) ?_
            refine g_iret dX11_slip_53 (fun ty h => by cases h; rfl) ?_
            have hS : S_slip P ds (nI p) (zI z) = (-2, ds) := by unfold S_slip; rw [inR_nI (by omega) hp, hdb, hdi, cl_nI (by omega)]; exact (if_pos (of_decide_eq_true (bI_ne c38))).trans (if_pos (of_decide_eq_true (bI_ne c48)))
            exact ⟨_, rfl, FrM.rf, by rw [hS], by rw [hS]; exact hA⟩
        · skip
          refine g_bipush (v := -4) dX11_slip_41 (by decide) ?_
          refine g_iret dX11_slip_43 (fun ty h => by cases h; rfl) ?_
          have hS : S_slip P ds (nI p) (zI z) = (-4, ds) := by unfold S_slip; rw [inR_nI (by omega) hp, hdb, hdi, cl_nI (by omega)]; exact if_neg (of_decide_eq_false (bI_eq c38))
          exact ⟨_, rfl, FrM.rf, by rw [hS], by rw [hS]; exact hA⟩
      · skip
        refine g_iconst (v := -1) dX11_slip_18 (by decide) ?_
        refine g_iret dX11_slip_19 (fun ty h => by cases h; rfl) ?_
        first
          | (have hS : S_slip P ds p e = (-1, ds) := by unfold S_slip; rw [bI_eq c5]; rfl
             exact ⟨_, rfl, FrM.rf, by rw [hS], by rw [hS]; exact hA⟩)
          | (have hS : S_slip P ds (nI p) e = (-1, ds) := by unfold S_slip; rw [decide_eq_false c10, decide_eq_false c15, Bool.or_false, Bool.and_false]; rfl
             exact ⟨_, rfl, FrM.rf, by rw [hS], by rw [hS]; exact hA⟩)
          | fail "no way"
theorem pm_jump {rw tx : Tab} {P : Pce} {ds : List Deed} {sh : Shf} {tl : Int32} {ch : Int64 × Int64} {fn : Fnd} {p q : Int32} (hA : AbsM rw tx P ds sh tl ch fn I J) (hO : StOK rw tx P ds sh) : Ct X (d + 7) 66 M_X11_jump 66 [.ref 48, .int p, .int q] (I, J, rf0) (RI (fun y9 m => ∃ I', m = (I', J, rf0) ∧ FrM I I' ∧ y9 = (S_jump P ds p q).1 ∧ AbsM rw tx P (S_jump P ds p q).2 sh tl ch fn I' J)) := by
  have hP := hA.2.2.1
  have hQ := hO.2.2.1
  have h14 := hQ.2.1
  have h4 := hQ.1
  have hEv := hA.2.2.2.1
  have hD := hO.2.2.2.1
  have hl40 := hD.1
  have hE := hEv.2.2
  have hR : EvR (evO P ds) := EvR.e.run hQ hD.2
  have hr14 := hR.1
  have hr2 := hR.2.1
  show Go _ _ _ _ _ _ [_, _, _, _] _ _ _
  refine g_aload_n dX11_jump_0 rfl ?_
  refine g_iload_n dX11_jump_1 rfl ?_
  refine g_callVi dX11_jump_2 ln_X11_157 ⟨_, rfl⟩ rfl (by decide) ⟨_, _, rfl⟩ rfl (Nat.le_of_ble_eq_true rfl) (Nat.le_of_ble_eq_true rfl) (ct_isPlayer hP hQ) rfl (fun r2 m2 h2 => ?_)
  obtain ⟨rfl, rfl⟩ := h2
  refine g_if_eq (tgt := 21) dX11_jump_5 (by decide) (fun c5 => ?_) (fun c5 => ?_)
  · skip
    refine g_iconst (v := -1) dX11_jump_21 (by decide) ?_
    refine g_iret dX11_jump_22 (fun ty h => by cases h; rfl) ?_
    have hS : S_jump P ds p q = (-1, ds) := by
      unfold S_jump
      first
        | (rw [bI_eq c5]; rfl)
        | (rw [bI_eq c13, Bool.false_and, Bool.and_false]; rfl)
        | (rw [decide_eq_false c18, Bool.and_false, Bool.and_false]; rfl)
        | (rw [decide_eq_false (not_not_intro c18), Bool.and_false, Bool.and_false]; rfl)
        | fail "no way"
    exact ⟨_, rfl, FrM.rf, by rw [hS], by rw [hS]; exact hA⟩
  · skip
    refine g_aload_n dX11_jump_8 rfl ?_
    refine g_iload_n dX11_jump_9 rfl ?_
    refine g_callVi dX11_jump_10 ln_X11_157 ⟨_, rfl⟩ rfl (by decide) ⟨_, _, rfl⟩ rfl (Nat.le_of_ble_eq_true rfl) (Nat.le_of_ble_eq_true rfl) (ct_isPlayer hP hQ) rfl (fun r10 m10 h10 => ?_)
    obtain ⟨rfl, rfl⟩ := h10
    refine g_if_eq (tgt := 21) dX11_jump_13 (by decide) (fun c13 => ?_) (fun c13 => ?_)
    · skip
      refine g_iconst (v := -1) dX11_jump_21 (by decide) ?_
      refine g_iret dX11_jump_22 (fun ty h => by cases h; rfl) ?_
      have hS : S_jump P ds p q = (-1, ds) := by
        unfold S_jump
        first
          | (rw [bI_eq c5]; rfl)
          | (rw [bI_eq c13, Bool.false_and, Bool.and_false]; rfl)
          | (rw [decide_eq_false c18, Bool.and_false, Bool.and_false]; rfl)
          | (rw [decide_eq_false (not_not_intro c18), Bool.and_false, Bool.and_false]; rfl)
          | fail "no way"
      exact ⟨_, rfl, FrM.rf, by rw [hS], by rw [hS]; exact hA⟩
    · skip
      refine g_iload_n dX11_jump_16 rfl ?_
      refine g_iload_n dX11_jump_17 rfl ?_
      refine g_icmp_ne (tgt := 23) dX11_jump_18 (by decide) (fun c18 => ?_) (fun c18 => ?_)
      · skip
        have q1 := bI_ne c5
        have q2 := bI_ne c13
        obtain ⟨p, hp, rfl⟩ := inR_ix (by omega) q1
        obtain ⟨q, hq, rfl⟩ := inR_ix (by omega) q2
        refine g_aload_n dX11_jump_23 rfl ?_
        refine g_callVi dX11_jump_24 ln_X11_192 ⟨_, rfl⟩ rfl (by decide) ⟨_, _, rfl⟩ rfl (Nat.le_of_ble_eq_true rfl) (Nat.le_of_ble_eq_true rfl) (ct_isFullM hEv.1 hl40) rfl (fun r24 m24 h24 => ?_)
        obtain ⟨rfl, rfl⟩ := h24
        refine g_if_eq (tgt := 33) dX11_jump_27 (by decide) (fun c27 => ?_) (fun c27 => ?_)
        · skip
          refine g_aload_n dX11_jump_33 rfl ?_
          refine t_getR dX11_jump_34 fl_X11_44 rfl (by decide) rfl (by decide) rfl ?_
          refine g_iload_n dX11_jump_37 rfl ?_
          refine t_iald dX11_jump_38 rfl (by decide) (in_nI (by omega) (by decide)) ?_
          rw [cl_nI (by omega), hE.2.2.2.1 q (by omega)]
          refine g_aload_n dX11_jump_39 rfl ?_
          refine t_getR dX11_jump_40 fl_X11_44 rfl (by decide) rfl (by decide) rfl ?_
          refine g_iload_n dX11_jump_43 rfl ?_
          refine t_iald dX11_jump_44 rfl (by decide) (in_nI (by omega) (by decide)) ?_
          rw [cl_nI (by omega), hE.2.2.2.1 p (by omega)]
          refine g_isub dX11_jump_45 ?_
          rw [z_sub]
          refine g_istore_n dX11_jump_46 (by decide) ?_
          show Go _ _ _ _ _ _ [_, _, _, _] _ _ _
          refine g_aload_n dX11_jump_47 rfl ?_
          refine g_iconst (v := 2) dX11_jump_48 (by decide) ?_
          refine g_iload_n dX11_jump_49 rfl ?_
          refine g_iload_n dX11_jump_50 rfl ?_
          refine g_callVv dX11_jump_51 ln_X11_196 rfl rfl (by decide) ⟨_, _, rfl⟩ rfl (Nat.le_of_ble_eq_true rfl) (Nat.le_of_ble_eq_true rfl) (ct_does (e := (2, p, q)) hP hQ hEv hD (by have := of_decide_eq_false (bI_eq c27); omega) ⟨hp, hq⟩ (howM_n (e := (2, p, q)) (show (2 : Nat) ≠ 1 by decide)).symm) rfl (fun m51 h51 => ?_)
          obtain ⟨I1, rfl, hf1, h01, h581, h591, hE1⟩ := h51
          refine g_iload_n dX11_jump_54 rfl ?_
          refine g_iconst (v := 4) dX11_jump_55 (by decide) ?_
          refine g_iadd dX11_jump_56 ?_
          refine g_iret dX11_jump_57 (fun ty h => by cases h; rfl) ?_
          have hS : S_jump P ds (nI p) (nI q) = (zI ((evO P ds).2.2.1 q - (evO P ds).2.2.1 p + 4), ds ++ [(2, p, q)]) := by unfold S_jump; rw [q1, q2, decide_eq_true c18, cl_nI (by omega), cl_nI (by omega)]; exact if_neg (of_decide_eq_false (bI_eq c27))
          refine ⟨_, rfl, (FrM.of hf1 (by decide)), ?_, by rw [hS]; exact hA.upEv hf1 h01 h581 h591 hE1⟩
          rw [hS, show (4 : Int32) = zI 4 from rfl, z_add]
        · skip
          refine g_bipush (v := -2) dX11_jump_30 (by decide) ?_
          refine g_iret dX11_jump_32 (fun ty h => by cases h; rfl) ?_
          have hS : S_jump P ds (nI p) (nI q) = (-2, ds) := by unfold S_jump; rw [q1, q2, decide_eq_true c18, cl_nI (by omega), cl_nI (by omega)]; exact if_pos (of_decide_eq_true (bI_ne c27))
          exact ⟨_, rfl, FrM.rf, by rw [hS], by rw [hS]; exact hA⟩
      · skip
        refine g_iconst (v := -1) dX11_jump_21 (by decide) ?_
        refine g_iret dX11_jump_22 (fun ty h => by cases h; rfl) ?_
        have hS : S_jump P ds p q = (-1, ds) := by
          unfold S_jump
          first
            | (rw [bI_eq c5]; rfl)
            | (rw [bI_eq c13, Bool.false_and, Bool.and_false]; rfl)
            | (rw [decide_eq_false c18, Bool.and_false, Bool.and_false]; rfl)
            | (rw [decide_eq_false (not_not_intro c18), Bool.and_false, Bool.and_false]; rfl)
            | fail "no way"
        exact ⟨_, rfl, FrM.rf, by rw [hS], by rw [hS]; exact hA⟩
theorem pm_anew {rw tx : Tab} {P : Pce} {ds : List Deed} {sh : Shf} {tl : Int32} {ch : Int64 × Int64} {fn : Fnd} {l : Int32} (hA : AbsM rw tx P ds sh tl ch fn I J) (hO : StOK rw tx P ds sh) : Ct X (d + 7) 66 M_X11_anew 66 [.ref 48, .int l] (I, J, rf0) (RI (fun y9 m => ∃ I', m = (I', J, rf0) ∧ FrM I I' ∧ y9 = (S_anew P ds l).1 ∧ AbsM rw tx P (S_anew P ds l).2 sh tl ch fn I' J)) := by
  have hP := hA.2.2.1
  have hQ := hO.2.2.1
  have h14 := hQ.2.1
  have h4 := hQ.1
  have hEv := hA.2.2.2.1
  have hD := hO.2.2.2.1
  have hl40 := hD.1
  have hE := hEv.2.2
  have hR : EvR (evO P ds) := EvR.e.run hQ hD.2
  have hr14 := hR.1
  have hr2 := hR.2.1
  show Go _ _ _ _ _ _ [_, _, _] _ _ _
  refine g_aload_n dX11_anew_0 rfl ?_
  refine g_iload_n dX11_anew_1 rfl ?_
  refine g_callVi dX11_anew_2 ln_X11_202 ⟨_, rfl⟩ rfl (by decide) ⟨_, _, rfl⟩ rfl (Nat.le_of_ble_eq_true rfl) (Nat.le_of_ble_eq_true rfl) (ct_letterAt hP hQ) rfl (fun r2 m2 h2 => ?_)
  obtain ⟨rfl, rfl⟩ := h2
  refine g_istore_n dX11_anew_5 (by decide) ?_
  show Go _ _ _ _ _ _ [_, _, _] _ _ _
  refine g_iload_n dX11_anew_6 rfl ?_
  refine g_if_ge (tgt := 12) dX11_anew_7 (by decide) (fun c7 => ?_) (fun c7 => ?_)
  · skip
    obtain ⟨x, hlp⟩ : ∃ x, letP P l = some x := by
      cases hh : letP P l with
      | none => rw [hh] at c7; exact absurd c7 (by decide)
      | some q => exact ⟨q, rfl⟩
    have hx : x < P.2.1 := (fstN_spec hlp).1
    rw [hlp]
    show Go _ _ _ _ _ _ [_, _, .int (nI x)] _ _ _
    refine g_aload_n dX11_anew_12 rfl ?_
    refine g_callVi dX11_anew_13 ln_X11_192 ⟨_, rfl⟩ rfl (by decide) ⟨_, _, rfl⟩ rfl (Nat.le_of_ble_eq_true rfl) (Nat.le_of_ble_eq_true rfl) (ct_isFullM hEv.1 hl40) rfl (fun r13 m13 h13 => ?_)
    obtain ⟨rfl, rfl⟩ := h13
    refine g_if_eq (tgt := 22) dX11_anew_16 (by decide) (fun c16 => ?_) (fun c16 => ?_)
    · skip
      refine g_aload_n dX11_anew_22 rfl ?_
      refine g_iconst (v := 3) dX11_anew_23 (by decide) ?_
      refine g_iconst (v := 0) dX11_anew_24 (by decide) ?_
      refine g_iload_n dX11_anew_25 rfl ?_
      refine g_callVv dX11_anew_26 ln_X11_196 rfl rfl (by decide) ⟨_, _, rfl⟩ rfl (Nat.le_of_ble_eq_true rfl) (Nat.le_of_ble_eq_true rfl) (ct_does (e := (3, 0, x)) hP hQ hEv hD (by have := of_decide_eq_false (bI_eq c16); omega) ⟨rfl, hx⟩ (howM_n (e := (3, 0, x)) (show (3 : Nat) ≠ 1 by decide)).symm) rfl (fun m26 h26 => ?_)
      obtain ⟨I1, rfl, hf1, h01, h581, h591, hE1⟩ := h26
      refine g_iload_n dX11_anew_29 rfl ?_
      refine g_iret dX11_anew_30 (fun ty h => by cases h; rfl) ?_
      have hS : S_anew P ds l = (nI x, ds ++ [(3, 0, x)]) := by unfold S_anew; rw [hlp]; exact if_neg (of_decide_eq_false (bI_eq c16))
      exact ⟨_, rfl, (FrM.of hf1 (by decide)), by rw [hS], by rw [hS]; exact hA.upEv hf1 h01 h581 h591 hE1⟩
    · skip
      refine g_bipush (v := -2) dX11_anew_19 (by decide) ?_
      refine g_iret dX11_anew_21 (fun ty h => by cases h; rfl) ?_
      have hS : S_anew P ds l = (-2, ds) := by unfold S_anew; rw [hlp]; exact if_pos (of_decide_eq_true (bI_ne c16))
      exact ⟨_, rfl, FrM.rf, by rw [hS], by rw [hS]; exact hA⟩
  · skip
    refine g_iconst (v := -1) dX11_anew_10 (by decide) ?_
    refine g_iret dX11_anew_11 (fun ty h => by cases h; rfl) ?_
    have hS : S_anew P ds l = (-1, ds) := by
      unfold S_anew
      cases hh : letP P l with
      | none => rfl
      | some x =>
        rw [hh] at c7
        have hx : x < P.2.1 := (fstN_spec hh).1
        exact absurd (nI_pos' (by omega)) (show ¬ 0 ≤ nI x from c7)
    exact ⟨_, rfl, FrM.rf, by rw [hS], by rw [hS]; exact hA⟩
theorem pm_undo {rw tx : Tab} {P : Pce} {ds : List Deed} {sh : Shf} {tl : Int32} {ch : Int64 × Int64} {fn : Fnd} {n : Int32} (hA : AbsM rw tx P ds sh tl ch fn I J) (hO : StOK rw tx P ds sh) : Ct X (d + 7) 66 M_X11_undo 66 [.ref 48, .int n] (I, J, rf0) (RI (fun y9 m => ∃ I', m = (I', J, rf0) ∧ FrM I I' ∧ y9 = (S_undo ds n).1 ∧ AbsM rw tx P (S_undo ds n).2 sh tl ch fn I' J)) := by
  have hP := hA.2.2.1
  have hQ := hO.2.2.1
  have h14 := hQ.2.1
  have h4 := hQ.1
  have hEv := hA.2.2.2.1
  have hD := hO.2.2.2.1
  have hl40 := hD.1
  have hE := hEv.2.2
  have hR : EvR (evO P ds) := EvR.e.run hQ hD.2
  have hr14 := hR.1
  have hr2 := hR.2.1
  show Go _ _ _ _ _ _ [_, _, _] _ _ _
  refine g_iload_n dX11_undo_0 rfl ?_
  refine g_i2l dX11_undo_1 ?_
  refine g_lconst (v := 0) dX11_undo_2 (by decide) ?_
  refine g_aload_n dX11_undo_3 rfl ?_
  refine t_getR dX11_undo_4 fl_X11_38 rfl (by decide) rfl (by decide) rfl ?_
  refine g_iconst (v := 0) dX11_undo_7 (by decide) ?_
  refine t_iald dX11_undo_8 rfl (by decide) (in_nI (j := 0) (by decide) (by decide)) ?_
  rw [show (0 : Int32).toNatClampNeg = 0 by decide, hEv.1]
  refine g_i2l dX11_undo_9 ?_
  refine g_callSi dX11_undo_10 ln_X11_76 ⟨_, rfl⟩ rfl (Nat.le_of_ble_eq_true rfl) (Nat.le_of_ble_eq_true rfl) ct_in rfl (fun r10 m10 h10 => ?_)
  obtain ⟨rfl, rfl⟩ := h10
  rw [inJ_n (by omega)]
  refine g_if_ne (tgt := 18) dX11_undo_13 (by decide) (fun c13 => ?_) (fun c13 => ?_)
  · skip
    have q1 := bI_ne c13
    obtain ⟨n, hn1, rfl⟩ := inR_ix (by omega) q1
    have hn : n ≤ ds.length := by omega
    refine g_aload_n dX11_undo_18 rfl ?_
    refine t_getR dX11_undo_19 fl_X11_38 rfl (by decide) rfl (by decide) rfl ?_
    refine g_iconst (v := 0) dX11_undo_22 (by decide) ?_
    refine t_iald dX11_undo_23 rfl (by decide) (in_nI (j := 0) (by decide) (by decide)) ?_
    rw [show (0 : Int32).toNatClampNeg = 0 by decide, hEv.1]
    refine g_iload_n dX11_undo_24 rfl ?_
    refine g_isub dX11_undo_25 ?_
    rw [pk_sub hn]
    refine g_istore_n dX11_undo_26 (by decide) ?_
    show Go _ _ _ _ _ _ [_, _, _] _ _ _
    refine g_aload_n dX11_undo_27 rfl ?_
    refine t_getR dX11_undo_28 fl_X11_38 rfl (by decide) rfl (by decide) rfl ?_
    refine g_iconst (v := 0) dX11_undo_31 (by decide) ?_
    refine g_iload_n dX11_undo_32 rfl ?_
    refine t_iast dX11_undo_33 rfl (by decide) (in_nI (j := 0) (by decide) (by decide)) ?_
    rw [show (0 : Int32).toNatClampNeg = 0 by decide]
    have hP2 : PcM P (upR I 58 (upd (I 58) 0 (nI n))) := hP.keep (by rw [upR_n (by decide)]) (by rw [upR_n (by decide)]) (upR_n (by decide)) (upR_n (by decide))
    have hds2 : DsM 0 ds (upR I 58 (upd (I 58) 0 (nI n))) := hEv.2.1.keep (upR_n (by decide))
    refine g_aload_n dX11_undo_34 rfl ?_
    refine g_callVv dX11_undo_35 ln_X11_122 rfl rfl (by decide) ⟨_, _, rfl⟩ rfl (Nat.le_of_ble_eq_true rfl) (Nat.le_of_ble_eq_true rfl) (ct_again (ds := ds) (n := n) hP2 hQ hds2 hD hn (by rw [upR_s, pk_us])) rfl (fun m35 h35 => ?_)
    obtain ⟨I1, rfl, hf1, hE1⟩ := h35
    refine g_iload_n dX11_undo_38 rfl ?_
    refine g_iret dX11_undo_39 (fun ty h => by cases h; rfl) ?_
    have hS : S_undo ds (nI n) = (nI (ds.length - n), ds.take n) := by unfold S_undo; rw [q1, cl_nI (by omega)]; rfl
    have hE9 : EvM P (ds.take n) I1 := ⟨by rw [hf1.1 58 (by decide), upR_s, pk_us, List.length_take, Nat.min_eq_left hn], fun i d' hd' => by
      rw [hf1.1 59 (by decide), upR_n (by decide)]
      exact hEv.2.1 i d' (by
        rw [List.getElem?_take] at hd'
        split at hd'
        · exact hd'
        · cases hd'), hE1⟩
    have hf9 : Fr [48, 58, 59, 60, 61, 63] I I1 := fun q hq => by
      have q1 : q ∉ [48, 60, 61, 63] := fun a => hq (by simp at a ⊢; omega)
      have q2 : q ≠ 58 := fun a => hq (by rw [a]; decide)
      rw [hf1.1 q q1, upR_n q2]
    exact ⟨_, rfl, (FrM.of hf9 (by decide)), by rw [hS], by rw [hS]; exact hA.upEv hf9 (fun j a b c => by rw [hf1.2 j a b c, upR_n (by decide)]) (fun j hj => by rw [hf1.1 58 (by decide), upR_s, pk_un (by omega)]) (fun q hq => by rw [hf1.1 59 (by decide), upR_n (by decide)]) hE9⟩
  · skip
    refine g_iconst (v := -1) dX11_undo_16 (by decide) ?_
    refine g_iret dX11_undo_17 (fun ty h => by cases h; rfl) ?_
    have hS : S_undo ds n = (-1, ds) := by unfold S_undo; rw [bI_eq c13]; rfl
    exact ⟨_, rfl, FrM.rf, by rw [hS], by rw [hS]; exact hA⟩
theorem pm_here {rw tx : Tab} {P : Pce} {ds : List Deed} {sh : Shf} {tl : Int32} {ch : Int64 × Int64} {fn : Fnd} (hA : AbsM rw tx P ds sh tl ch fn I J) (hO : StOK rw tx P ds sh) : Ct X (d + 1) 66 M_X11_here 66 [.ref 48] (I, J, rf0) (RI (fun y9 m => ∃ I', m = (I', J, rf0) ∧ FrM I I' ∧ y9 = (S_here P ds tl).1 ∧ AbsM rw tx P ds sh (S_here P ds tl).2 ch fn I' J)) := by
  have hP := hA.2.2.1
  have hQ := hO.2.2.1
  have h14 := hQ.2.1
  have h4 := hQ.1
  have hEv := hA.2.2.2.1
  have hD := hO.2.2.2.1
  have hl40 := hD.1
  have hE := hEv.2.2
  have hR : EvR (evO P ds) := EvR.e.run hQ hD.2
  have hr14 := hR.1
  have hr2 := hR.2.1
  show Go _ _ _ _ _ _ [_] _ _ _
  refine g_aload_n dX11_here_0 rfl ?_
  refine t_getI dX11_here_1 fl_X11_119 rfl (by decide) rfl (by decide) ?_
  rw [hP.2.1]
  refine g_if_ne (tgt := 12) dX11_here_4 (by decide) (fun c4 => ?_) (fun c4 => ?_)
  · skip
    refine g_aload_n dX11_here_12 rfl ?_
    refine g_aload_n dX11_here_13 rfl ?_
    refine t_getI dX11_here_14 fl_X11_182 rfl (by decide) rfl (by decide) ?_
    rw [hE.2.2.1]
    refine g_aload_n dX11_here_17 rfl ?_
    refine t_getI dX11_here_18 fl_X11_176 rfl (by decide) rfl (by decide) ?_
    rw [hE.1]
    refine g_callVi dX11_here_21 ln_X11_84 ⟨_, rfl⟩ rfl (by decide) ⟨_, _, rfl⟩ rfl (Nat.le_of_ble_eq_true rfl) (Nat.le_of_ble_eq_true rfl) ct_asks rfl (fun r21 m21 h21 => ?_)
    obtain ⟨rfl, rfl⟩ := h21
    refine g_iret dX11_here_24 (fun ty h => by cases h; rfl) ?_
    first
      | (have h0 : ¬ P.2.1 = 0 := fun q => c4 (by rw [q]; rfl)
         have hS : S_here P ds tl = (nI (evO P ds).1, nI ((evO P ds).1 - (evO P ds).2.1)) := by unfold S_here; rw [if_neg h0]
         exact ⟨_, rfl, FrM.rf.up (by decide), by rw [hS], by rw [hS]; exact hA.told⟩)
      | (have h0 : P.2.1 = 0 := (nI_eq (by omega) (by decide)).mp (show nI P.2.1 = nI 0 from c4)
         have hS : S_here P ds tl = (-4, tl) := by unfold S_here; rw [if_pos h0]
         exact ⟨_, rfl, FrM.rf, by rw [hS], by rw [hS]; exact hA⟩)
      | fail "no way"
  · skip
    refine g_bipush (v := -4) dX11_here_7 (by decide) ?_
    refine g_goto (tgt := 24) dX11_here_9 (by decide) ?_
    refine g_iret dX11_here_24 (fun ty h => by cases h; rfl) ?_
    first
      | (have h0 : ¬ P.2.1 = 0 := fun q => c4 (by rw [q]; rfl)
         have hS : S_here P ds tl = (nI (evO P ds).1, nI ((evO P ds).1 - (evO P ds).2.1)) := by unfold S_here; rw [if_neg h0]
         exact ⟨_, rfl, FrM.rf.up (by decide), by rw [hS], by rw [hS]; exact hA.told⟩)
      | (have h0 : P.2.1 = 0 := (nI_eq (by omega) (by decide)).mp (show nI P.2.1 = nI 0 from c4)
         have hS : S_here P ds tl = (-4, tl) := by unfold S_here; rw [if_pos h0]
         exact ⟨_, rfl, FrM.rf, by rw [hS], by rw [hS]; exact hA⟩)
      | fail "no way"
theorem pm_out {rw tx : Tab} {P : Pce} {ds : List Deed} {sh : Shf} {tl : Int32} {ch : Int64 × Int64} {fn : Fnd} {p : Int32} (hA : AbsM rw tx P ds sh tl ch fn I J) (hO : StOK rw tx P ds sh) : Ct X (d + 2) 66 M_X11_out 66 [.ref 48, .int p] (I, J, rf0) (RI (fun y9 m => ∃ I', m = (I', J, rf0) ∧ FrM I I' ∧ y9 = S_out P ds p ∧ AbsM rw tx P ds sh tl ch fn I' J)) := by
  have hP := hA.2.2.1
  have hQ := hO.2.2.1
  have h14 := hQ.2.1
  have h4 := hQ.1
  have hEv := hA.2.2.2.1
  have hD := hO.2.2.2.1
  have hl40 := hD.1
  have hE := hEv.2.2
  have hR : EvR (evO P ds) := EvR.e.run hQ hD.2
  have hr14 := hR.1
  have hr2 := hR.2.1
  show Go _ _ _ _ _ _ [_, _] _ _ _
  refine g_aload_n dX11_out_0 rfl ?_
  refine g_iload_n dX11_out_1 rfl ?_
  refine g_callVi dX11_out_2 ln_X11_157 ⟨_, rfl⟩ rfl (by decide) ⟨_, _, rfl⟩ rfl (Nat.le_of_ble_eq_true rfl) (Nat.le_of_ble_eq_true rfl) (ct_isPlayer hP hQ) rfl (fun r2 m2 h2 => ?_)
  obtain ⟨rfl, rfl⟩ := h2
  refine g_if_eq (tgt := 19) dX11_out_5 (by decide) (fun c5 => ?_) (fun c5 => ?_)
  · skip
    refine g_iconst (v := -1) dX11_out_19 (by decide) ?_
    refine g_iret dX11_out_20 (fun ty h => by cases h; rfl) ?_
    refine ⟨_, rfl, FrM.rf, ?_, hA⟩
    unfold S_out
    first
      | (rw [bI_eq c5]; rfl)
      | (rw [q1, cl_nI (by omega), show (2 : Int32) = zI 2 from rfl, z_add]; rfl)
      | fail "no way"
  · skip
    have q1 := bI_ne c5
    obtain ⟨p, hp, rfl⟩ := inR_ix (by omega) q1
    refine g_aload_n dX11_out_8 rfl ?_
    refine t_getR dX11_out_9 fl_X11_44 rfl (by decide) rfl (by decide) rfl ?_
    refine g_iload_n dX11_out_12 rfl ?_
    refine t_iald dX11_out_13 rfl (by decide) (in_nI (by omega) (by decide)) ?_
    rw [cl_nI (by omega), hE.2.2.2.1 p (by omega)]
    refine g_iconst (v := 2) dX11_out_14 (by decide) ?_
    refine g_iadd dX11_out_15 ?_
    refine g_goto (tgt := 20) dX11_out_16 (by decide) ?_
    refine g_iret dX11_out_20 (fun ty h => by cases h; rfl) ?_
    refine ⟨_, rfl, FrM.rf, ?_, hA⟩
    unfold S_out
    first
      | (rw [bI_eq c5]; rfl)
      | (rw [q1, cl_nI (by omega), show (2 : Int32) = zI 2 from rfl, z_add]; rfl)
      | fail "no way"
theorem pm_hear {rw tx : Tab} {P : Pce} {ds : List Deed} {sh : Shf} {tl : Int32} {ch : Int64 × Int64} {fn : Fnd} (hA : AbsM rw tx P ds sh tl ch fn I J) (hO : StOK rw tx P ds sh) : Ct X (d + 5) 66 M_X11_hear 66 [.ref 48] (I, J, rf0) (RI (fun y9 m => ∃ I', m = (I', J, rf0) ∧ FrM I I' ∧ y9 = S_hear P ds ∧ AbsM rw tx P ds sh tl ch fn I' J)) := by
  have hP := hA.2.2.1
  have hQ := hO.2.2.1
  have h14 := hQ.2.1
  have h4 := hQ.1
  have hEv := hA.2.2.2.1
  have hD := hO.2.2.2.1
  have hl40 := hD.1
  have hE := hEv.2.2
  have hR : EvR (evO P ds) := EvR.e.run hQ hD.2
  have hr14 := hR.1
  have hr2 := hR.2.1
  show Go _ _ _ _ _ _ [_] _ _ _
  refine g_aload_n dX11_hear_0 rfl ?_
  refine t_getI dX11_hear_1 fl_X11_176 rfl (by decide) rfl (by decide) ?_
  rw [hE.1]
  refine g_aload_n dX11_hear_4 rfl ?_
  refine t_getI dX11_hear_5 fl_X11_119 rfl (by decide) rfl (by decide) ?_
  rw [hP.2.1]
  refine g_icmp_lt (tgt := 14) dX11_hear_8 (by decide) (fun c8 => ?_) (fun c8 => ?_)
  · skip
    have hlt := (nI_ltI (show (evO P ds).1 < 2 ^ 31 by omega) (show P.2.1 < 2 ^ 31 by omega)).mp c8
    refine g_aload_n dX11_hear_14 rfl ?_
    refine g_callVv dX11_hear_15 ln_X11_189 rfl rfl (by decide) ⟨_, _, rfl⟩ rfl (Nat.le_of_ble_eq_true rfl) (Nat.le_of_ble_eq_true rfl) ct_asOut rfl (fun m15 h15 => ?_)
    obtain ⟨g, rfl, hg⟩ := h15
    refine g_aload_n dX11_hear_18 rfl ?_
    refine g_aload_n dX11_hear_19 rfl ?_
    refine t_getI dX11_hear_20 fl_X11_176 rfl (by decide) rfl (by decide) ?_
    rw [upR_n (a := 48) (by decide), hE.1]
    refine g_callVi dX11_hear_23 ln_X11_143 ⟨_, rfl⟩ rfl (by decide) ⟨_, _, rfl⟩ rfl (Nat.le_of_ble_eq_true rfl) (Nat.le_of_ble_eq_true rfl) (ct_hears (x := (evO P ds).1) hP.keep63 hQ hlt hR.2.2.1 (fun p hp => by rw [upR_s, hg p hp]; exact hE.2.2.2.1 p hp)) rfl (fun r23 m23 h23 => ?_)
    obtain ⟨rfl, rfl⟩ := h23
    refine g_iret dX11_hear_26 (fun ty h => by cases h; rfl) ?_
    refine ⟨_, rfl, FrM.rf.up (by decide), ?_, hA.scr (Fr.rf.up (by decide))⟩
    unfold S_hear
    rw [if_neg (by omega)]
  · skip
    refine g_bipush (v := -4) dX11_hear_11 (by decide) ?_
    refine g_iret dX11_hear_13 (fun ty h => by cases h; rfl) ?_
    refine ⟨_, rfl, FrM.rf, ?_, hA⟩
    unfold S_hear
    rw [if_pos (Nat.le_of_not_lt (fun q => c8 (nI_lt q (by omega))))]
theorem pm_heard {rw tx : Tab} {P : Pce} {ds : List Deed} {sh : Shf} {tl : Int32} {ch : Int64 × Int64} {fn : Fnd} {r : Int32} (hA : AbsM rw tx P ds sh tl ch fn I J) (hO : StOK rw tx P ds sh) : Ct X (d + 1) 66 M_X11_heard 66 [.ref 48, .int r] (I, J, rf0) (RI (fun y9 m => ∃ I', m = (I', J, rf0) ∧ FrM I I' ∧ y9 = (S_heard P ds rw r).1 ∧ AbsM (S_heard P ds rw r).2 tx P ds sh tl ch fn I' J)) := by
  have hP := hA.2.2.1
  have hQ := hO.2.2.1
  have h14 := hQ.2.1
  have h4 := hQ.1
  have hEv := hA.2.2.2.1
  have hD := hO.2.2.2.1
  have hl40 := hD.1
  have hE := hEv.2.2
  have hR : EvR (evO P ds) := EvR.e.run hQ hD.2
  have hr14 := hR.1
  have hr2 := hR.2.1
  show Go _ _ _ _ _ _ [_, _, _] _ _ _
  refine g_iload_n dX11_heard_0 rfl ?_
  refine g_i2l dX11_heard_1 ?_
  refine g_lconst (v := 0) dX11_heard_2 (by decide) ?_
  refine g_ldc2 dX11_heard_3 tb_1084 ?_
  refine g_callSi dX11_heard_6 ln_X11_76 ⟨_, rfl⟩ rfl (Nat.le_of_ble_eq_true rfl) (Nat.le_of_ble_eq_true rfl) ct_in rfl (fun r6 m6 h6 => ?_)
  obtain ⟨rfl, rfl⟩ := h6
  rw [inJ_6]
  refine g_if_ne (tgt := 14) dX11_heard_9 (by decide) (fun c9 => ?_) (fun c9 => ?_)
  · skip
    have q1 := bI_ne c9
    obtain ⟨j, hj, rfl⟩ := inR_ix (by decide) q1
    refine g_aload_n dX11_heard_14 rfl ?_
    refine t_getR dX11_heard_15 fl_X11_7 rfl (by decide) rfl (by decide) rfl ?_
    refine g_iload_n dX11_heard_18 rfl ?_
    refine g_aload_n dX11_heard_19 rfl ?_
    refine t_getI dX11_heard_20 fl_X11_182 rfl (by decide) rfl (by decide) ?_
    rw [hE.2.2.1]
    refine t_iast dX11_heard_23 rfl (by decide) (in_nI hj (by decide)) ?_
    refine g_iconst (v := 0) dX11_heard_24 (by decide) ?_
    refine g_istore_n dX11_heard_25 (by decide) ?_
    show Go _ _ _ _ _ _ [_, _, _] _ _ _
    rw [cl_nI (by omega)]
    generalize hI1 : upR I 49 (upd (I 49) j (nI ((evO P ds).1 - (evO P ds).2.1))) = I1
    have hfold : ∀ i q, foldN (fun (i : Nat) (g : Nat → Int32) => upd g (40 * j + i) (nI ((evO P ds).2.2.2 ((evO P ds).2.1 + i)))) (I1 50) i q = if 40 * j ≤ q ∧ q < 40 * j + i then nI ((evO P ds).2.2.2 ((evO P ds).2.1 + (q - 40 * j))) else I1 50 q := by
      intro i
      induction i with
      | zero => intro q; rw [if_neg (by omega)]; rfl
      | succ i ih =>
        intro q
        show upd (foldN (fun (i : Nat) (g : Nat → Int32) => upd g (40 * j + i) (nI ((evO P ds).2.2.2 ((evO P ds).2.1 + i)))) (I1 50) i) (40 * j + i) _ q = _
        by_cases e : q = 40 * j + i
        · rw [e, pk_us, if_pos (by omega), show 40 * j + i - 40 * j = i by omega]
        · rw [pk_un e, ih q]
          by_cases e2 : 40 * j ≤ q ∧ q < 40 * j + i
          · rw [if_pos e2, if_pos (by omega)]
          · rw [if_neg e2, if_neg (by omega)]
    have hne : ∀ (g : Nat → Int32) q, q ≠ 49 → q ≠ 50 → upR I1 50 g q = I q := fun g q h1 h2 => by rw [upR_n h2, ← hI1, upR_n h1]
    rw [id_cell (I := I1) 50]
    refine go_for (fun (i : Nat) (g : Nat → Int32) => upd g (40 * j + i) (nI ((evO P ds).2.2.2 ((evO P ds).2.1 + i)))) (I1 50) ((evO P ds).1 - (evO P ds).2.1) (fun i g => Go X (d + 1) 66 M_X11_heard 66 26 [.ref 48, .int (nI j), .int (nI i)] [] (upR I1 50 g, J, rf0) (RI (fun y9 m => ∃ I', m = (I', J, rf0) ∧ FrM I I' ∧ y9 = (S_heard P ds rw (nI j)).1 ∧ AbsM (S_heard P ds rw (nI j)).2 tx P ds sh tl ch fn I' J))) (fun i hi kk => ?_) ?_
    · skip
      refine g_iload_n dX11_heard_26 rfl ?_
      refine g_aload_n dX11_heard_27 rfl ?_
      refine t_getI dX11_heard_28 fl_X11_182 rfl (by decide) rfl (by decide) ?_
      rw [hne _ 48 (by decide) (by decide), hE.2.2.1]
      refine g_icmp_ge (tgt := 57) dX11_heard_31 (by decide) (fun c31 => ?_) (fun c31 => ?_)
      · exact absurd (nI_lt hi (by omega)) (Int32.not_lt.mpr c31)
      · skip
        refine g_aload_n dX11_heard_34 rfl ?_
        refine t_getR dX11_heard_35 fl_X11_13 rfl (by decide) rfl (by decide) rfl ?_
        refine g_bipush (v := 40) dX11_heard_38 (by decide) ?_
        refine g_iload_n dX11_heard_40 rfl ?_
        refine g_imul dX11_heard_41 ?_
        refine g_iload_n dX11_heard_42 rfl ?_
        refine g_iadd dX11_heard_43 ?_
        refine g_aload_n dX11_heard_44 rfl ?_
        refine t_getR dX11_heard_45 fl_X11_47 rfl (by decide) rfl (by decide) rfl ?_
        refine g_iload_n dX11_heard_48 rfl ?_
        refine t_iald dX11_heard_49 rfl (by decide) (in_nI (by omega) (by decide)) ?_
        refine t_iast dX11_heard_50 rfl (by decide) (by rw [ix40]; exact in_nI (by omega) (by decide)) ?_
        refine g_iinc dX11_heard_51 rfl (by decide) ?_
        show Go _ _ _ _ _ _ [_, _, _] _ _ _
        refine g_goto (tgt := 26) dX11_heard_54 (by decide) ?_
        rw [nI_inc, ix40, cl_nI (by omega), cl_nI (by omega), hne _ 61 (by decide) (by decide), hE.2.2.2.2 i hi, up_up, upR_s]
        exact kk
    · skip
      refine g_iload_n dX11_heard_26 rfl ?_
      refine g_aload_n dX11_heard_27 rfl ?_
      refine t_getI dX11_heard_28 fl_X11_182 rfl (by decide) rfl (by decide) ?_
      rw [hne _ 48 (by decide) (by decide), hE.2.2.1]
      refine g_icmp_ge (tgt := 57) dX11_heard_31 (by decide) (fun c31 => ?_) (fun c31 => ?_)
      · skip
        refine g_aload_n dX11_heard_57 rfl ?_
        refine t_getI dX11_heard_58 fl_X11_182 rfl (by decide) rfl (by decide) ?_
        rw [hne _ 48 (by decide) (by decide), hE.2.2.1]
        refine g_iret dX11_heard_61 (fun ty h => by cases h; rfl) ?_
        have hS : S_heard P ds rw (nI j) = (nI ((evO P ds).1 - (evO P ds).2.1), tabHrd rw j (evO P ds)) := by unfold S_heard; rw [q1, cl_nI (by omega)]; rfl
        have h50 : I1 50 = I 50 := by rw [← hI1, upR_n (by decide)]
        refine ⟨_, rfl, ?_, by rw [hS], ?_⟩
        · rw [← hI1]; exact (FrM.rf.up (by decide)).up (by decide)
        · rw [hS]
          have hg1 : ∀ i, i < (evO P ds).1 - (evO P ds).2.1 → foldN (fun (i : Nat) (g : Nat → Int32) => upd g (40 * j + i) (nI ((evO P ds).2.2.2 ((evO P ds).2.1 + i)))) (I1 50) ((evO P ds).1 - (evO P ds).2.1) (40 * j + i) = nI ((evO P ds).2.2.2 ((evO P ds).2.1 + i)) := fun i hi => by
            rw [hfold, if_pos (by omega), show 40 * j + i - 40 * j = i by omega]
          have hg2 : ∀ q, (q < 40 * j ∨ 40 * j + ((evO P ds).1 - (evO P ds).2.1) ≤ q) → foldN (fun (i : Nat) (g : Nat → Int32) => upd g (40 * j + i) (nI ((evO P ds).2.2.2 ((evO P ds).2.1 + i)))) (I1 50) ((evO P ds).1 - (evO P ds).2.1) q = I 50 q := fun q hq => by
            rw [hfold, if_neg (by omega), h50]
          rw [← hI1] at hg1 hg2 ⊢
          exact hA.upRw ((Fr.rf.up (by decide)).up (by decide)) (RwM.hrd hA.1 hO.1 hj (by omega) hg1 hg2)
      · exact absurd (Int32.le_refl _) c31
  · skip
    refine g_iconst (v := -1) dX11_heard_12 (by decide) ?_
    refine g_iret dX11_heard_13 (fun ty h => by cases h; rfl) ?_
    have hS : S_heard P ds rw r = (-1, rw) := by unfold S_heard; rw [bI_eq c9]; rfl
    exact ⟨_, rfl, FrM.rf, by rw [hS], by rw [hS]; exact hA⟩
theorem ix120 (a k : Nat) : (120 : Int32) * nI a + nI k = nI (120 * a + k) := by rw [show (120 : Int32) = nI 120 from rfl, pk_mul, nI_add]
theorem ct_copies {a b : Nat} (ha : a < 4) (hb : b < 4) (hab : a ≠ b) : Ct X d 66 M_X11_copies 66 [.ref 48, .int (nI a), .int (nI b)] (I, J, rf0) (RV (fun m => ∃ g, m = (upR (upR I 58 (upd (I 58) b (I 58 a))) 59 g, J, rf0) ∧ (∀ k, k < 120 → g (120 * b + k) = I 59 (120 * a + k)) ∧ ∀ q, (q < 120 * b ∨ 120 * b + 120 ≤ q) → g q = I 59 q)) := by
  show Go _ _ _ _ _ _ [_, _, _, _] _ _ _
  refine g_aload_n dX11_copies_0 rfl ?_
  refine t_getR dX11_copies_1 fl_X11_38 rfl (by decide) rfl (by decide) rfl ?_
  refine g_iload_n dX11_copies_4 rfl ?_
  refine g_aload_n dX11_copies_5 rfl ?_
  refine t_getR dX11_copies_6 fl_X11_38 rfl (by decide) rfl (by decide) rfl ?_
  refine g_iload_n dX11_copies_9 rfl ?_
  refine t_iald dX11_copies_10 rfl (by decide) (in_nI ha (by decide)) ?_
  refine t_iast dX11_copies_11 rfl (by decide) (in_nI hb (by decide)) ?_
  refine g_iconst (v := 0) dX11_copies_12 (by decide) ?_
  refine g_istore_n dX11_copies_13 (by decide) ?_
  show Go _ _ _ _ _ _ [_, _, _, _] _ _ _
  rw [cl_nI (by omega), cl_nI (by omega)]
  generalize hI1 : upR I 58 (upd (I 58) b (I 58 a)) = I1
  have h59 : I1 59 = I 59 := by rw [← hI1, upR_n (by decide)]
  have hfold : ∀ i, i ≤ 120 → ∀ q, foldN (fun (k : Nat) (g : Nat → Int32) => upd g (120 * b + k) (g (120 * a + k))) (I1 59) i q = if 120 * b ≤ q ∧ q < 120 * b + i then I 59 (120 * a + (q - 120 * b)) else I 59 q := by
    intro i
    induction i with
    | zero => intro _ q; rw [if_neg (by omega), ← h59]; rfl
    | succ i ih =>
      intro hi q
      show upd (foldN (fun (k : Nat) (g : Nat → Int32) => upd g (120 * b + k) (g (120 * a + k))) (I1 59) i) (120 * b + i) (foldN (fun (k : Nat) (g : Nat → Int32) => upd g (120 * b + k) (g (120 * a + k))) (I1 59) i (120 * a + i)) q = _
      by_cases e : q = 120 * b + i
      · rw [e, pk_us, if_pos (by omega), show 120 * b + i - 120 * b = i by omega]
        rw [ih (by omega), if_neg (by omega)]
      · rw [pk_un e, ih (by omega) q]
        by_cases e2 : 120 * b ≤ q ∧ q < 120 * b + i
        · rw [if_pos e2, if_pos (by omega)]
        · rw [if_neg e2, if_neg (by omega)]
  rw [id_cell (I := I1) 59]
  refine go_for (fun (k : Nat) (g : Nat → Int32) => upd g (120 * b + k) (g (120 * a + k))) (I1 59) 120 (fun k g => Go X d 66 M_X11_copies 66 14 [.ref 48, .int (nI a), .int (nI b), .int (nI k)] [] (upR I1 59 g, J, rf0) (RV (fun m => ∃ g, m = (upR I1 59 g, J, rf0) ∧ (∀ k, k < 120 → g (120 * b + k) = I 59 (120 * a + k)) ∧ ∀ q, (q < 120 * b ∨ 120 * b + 120 ≤ q) → g q = I 59 q))) (fun k hk kk => ?_) ?_
  · skip
    refine g_iload_n dX11_copies_14 rfl ?_
    refine g_bipush (v := 120) dX11_copies_15 (by decide) ?_
    refine g_icmp_ge (tgt := 48) dX11_copies_17 (by decide) (fun c17 => ?_) (fun c17 => ?_)
    · exact absurd (nI_lt hk (by decide)) (Int32.not_lt.mpr c17)
    · skip
      refine g_aload_n dX11_copies_20 rfl ?_
      refine t_getR dX11_copies_21 fl_X11_41 rfl (by decide) rfl (by decide) rfl ?_
      refine g_bipush (v := 120) dX11_copies_24 (by decide) ?_
      refine g_iload_n dX11_copies_26 rfl ?_
      refine g_imul dX11_copies_27 ?_
      refine g_iload_n dX11_copies_28 rfl ?_
      refine g_iadd dX11_copies_29 ?_
      refine g_aload_n dX11_copies_30 rfl ?_
      refine t_getR dX11_copies_31 fl_X11_41 rfl (by decide) rfl (by decide) rfl ?_
      refine g_bipush (v := 120) dX11_copies_34 (by decide) ?_
      refine g_iload_n dX11_copies_36 rfl ?_
      refine g_imul dX11_copies_37 ?_
      refine g_iload_n dX11_copies_38 rfl ?_
      refine g_iadd dX11_copies_39 ?_
      refine t_iald dX11_copies_40 rfl (by decide) (by rw [ix120]; exact in_nI (by omega) (by decide)) ?_
      refine t_iast dX11_copies_41 rfl (by decide) (by rw [ix120]; exact in_nI (by omega) (by decide)) ?_
      refine g_iinc dX11_copies_42 rfl (by decide) ?_
      show Go _ _ _ _ _ _ [_, _, _, _] _ _ _
      refine g_goto (tgt := 14) dX11_copies_45 (by decide) ?_
      rw [nI_inc, ix120, ix120, cl_nI (by omega), cl_nI (by omega), up_up, upR_s]
      exact kk
  · skip
    refine g_iload_n dX11_copies_14 rfl ?_
    refine g_bipush (v := 120) dX11_copies_15 (by decide) ?_
    refine g_icmp_ge (tgt := 48) dX11_copies_17 (by decide) (fun c17 => ?_) (fun c17 => ?_)
    · skip
      refine g_vret dX11_copies_48 ?_
      exact ⟨_, rfl, fun k hk => by rw [hfold 120 (Nat.le_refl _), if_pos (by omega), show 120 * b + k - 120 * b = k by omega], fun q hq => by rw [hfold 120 (Nat.le_refl _), if_neg (by omega)]⟩
    · exact absurd (Int32.le_refl _) c17
theorem pm_image {rw tx : Tab} {P : Pce} {ds : List Deed} {sh : Shf} {tl : Int32} {ch : Int64 × Int64} {fn : Fnd} {k : Int32} (hA : AbsM rw tx P ds sh tl ch fn I J) (hO : StOK rw tx P ds sh) : Ct X (d + 1) 66 M_X11_image 66 [.ref 48, .int k] (I, J, rf0) (RI (fun y9 m => ∃ I', m = (I', J, rf0) ∧ FrM I I' ∧ y9 = (S_image P ds sh k).1 ∧ AbsM rw tx P ds (S_image P ds sh k).2 tl ch fn I' J)) := by
  have hP := hA.2.2.1
  have hQ := hO.2.2.1
  have h14 := hQ.2.1
  have h4 := hQ.1
  have hEv := hA.2.2.2.1
  have hD := hO.2.2.2.1
  have hl40 := hD.1
  have hE := hEv.2.2
  have hR : EvR (evO P ds) := EvR.e.run hQ hD.2
  have hr14 := hR.1
  have hr2 := hR.2.1
  show Go _ _ _ _ _ _ [_, _] _ _ _
  refine g_iload_n dX11_image_0 rfl ?_
  refine g_i2l dX11_image_1 ?_
  refine g_lconst (v := 0) dX11_image_2 (by decide) ?_
  refine g_ldc2 dX11_image_3 tb_1187 ?_
  refine g_callSi dX11_image_6 ln_X11_76 ⟨_, rfl⟩ rfl (Nat.le_of_ble_eq_true rfl) (Nat.le_of_ble_eq_true rfl) ct_in rfl (fun r6 m6 h6 => ?_)
  obtain ⟨rfl, rfl⟩ := h6
  rw [inJ_3]
  refine g_if_ne (tgt := 14) dX11_image_9 (by decide) (fun c9 => ?_) (fun c9 => ?_)
  · skip
    have q1 := bI_ne c9
    obtain ⟨j, hj, rfl⟩ := inR_ix (by decide) q1
    refine g_aload_n dX11_image_14 rfl ?_
    refine t_getI dX11_image_15 fl_X11_119 rfl (by decide) rfl (by decide) ?_
    rw [hP.2.1]
    refine g_if_ne (tgt := 24) dX11_image_18 (by decide) (fun c18 => ?_) (fun c18 => ?_)
    · skip
      refine g_aload_n dX11_image_24 rfl ?_
      refine g_iconst (v := 0) dX11_image_25 (by decide) ?_
      refine g_iload_n dX11_image_26 rfl ?_
      refine g_iconst (v := 1) dX11_image_27 (by decide) ?_
      refine g_iadd dX11_image_28 ?_
      rw [nI_1]
      refine g_callVv dX11_image_29 ln_X11_205 rfl rfl (by decide) ⟨_, _, rfl⟩ rfl (Nat.le_of_ble_eq_true rfl) (Nat.le_of_ble_eq_true rfl) (ct_copies (a := 0) (b := j + 1) (by decide) (by omega) (by omega)) rfl (fun m29 h29 => ?_)
      obtain ⟨g, rfl, hg1, hg2⟩ := h29
      refine g_aload_n dX11_image_32 rfl ?_
      refine t_getR dX11_image_33 fl_X11_38 rfl (by decide) rfl (by decide) rfl ?_
      refine g_iconst (v := 0) dX11_image_36 (by decide) ?_
      refine t_iald dX11_image_37 rfl (by decide) (in_nI (j := 0) (by decide) (by decide)) ?_
      refine g_iret dX11_image_38 (fun ty h => by cases h; rfl) ?_
      have h0 : ¬ P.2.1 = 0 := fun q => c18 (by rw [q]; rfl)
      have hS : S_image P ds sh (nI j) = (nI ds.length, upR sh j (some ds)) := by unfold S_image; rw [q1, cl_nI (by omega)]; exact if_neg h0
      generalize hI1 : upR (upR I 58 (upd (I 58) (j + 1) (I 58 0))) 59 g = I1
      have h58 : I1 58 = upd (I 58) (j + 1) (I 58 0) := by rw [← hI1, upR_n (by decide), upR_s]
      have h59 : I1 59 = g := by rw [← hI1, upR_s]
      have hf1 : Fr [58, 59] I I1 := by rw [← hI1]; exact (Fr.rf.up (by decide)).up (by decide)
      have hSh : ShM (upR sh j (some ds)) I1 := by
        intro k hk
        by_cases e : k = j
        · subst e
          rw [upR_s, h58, pk_us, hEv.1]
          refine ⟨rfl, fun es he i d' hd' => ?_⟩
          cases he
          have hi := (List.getElem?_eq_some_iff.mp hd').1
          have hh := hEv.2.1 i d' hd'
          rw [h59, Nat.add_assoc, Nat.add_assoc, hg1 _ (by omega), hg1 _ (by omega), hg1 _ (by omega)]
          rw [Nat.mul_zero]
          rw [Nat.add_assoc, Nat.add_assoc] at hh
          exact hh
        · rw [upR_n e, h58, pk_un (by omega)]
          refine ⟨(hA.2.2.2.2.1 k hk).1, fun es he i d' hd' => ?_⟩
          have hle := (hO.2.2.2.2 k hk es he).1
          have hi := (List.getElem?_eq_some_iff.mp hd').1
          have hh := (hA.2.2.2.2.1 k hk).2 es he i d' hd'
          rw [h59, hg2 _ (by omega), hg2 _ (by omega), hg2 _ (by omega)]
          exact hh
      refine ⟨_, rfl, FrM.of hf1 (by decide), ?_, by rw [hS]; exact hA.upSh hf1 (by rw [h58, pk_un (by omega)]) (fun q hq => by rw [h59, hg2 _ (by omega)]) hl40 hSh⟩
      rw [hS, show (0 : Int32).toNatClampNeg = 0 by decide, h58, pk_un (by omega)]
      exact hEv.1
    · skip
      refine g_bipush (v := -4) dX11_image_21 (by decide) ?_
      refine g_iret dX11_image_23 (fun ty h => by cases h; rfl) ?_
      have h0 : P.2.1 = 0 := (nI_eq (by omega) (by decide)).mp (show nI P.2.1 = nI 0 from c18)
      have hS : S_image P ds sh (nI j) = (-4, sh) := by unfold S_image; rw [q1]; exact if_pos h0
      exact ⟨_, rfl, FrM.rf, by rw [hS], by rw [hS]; exact hA⟩
  · skip
    refine g_iconst (v := -1) dX11_image_12 (by decide) ?_
    refine g_iret dX11_image_13 (fun ty h => by cases h; rfl) ?_
    have hS : S_image P ds sh k = (-1, sh) := by unfold S_image; rw [bI_eq c9]; rfl
    exact ⟨_, rfl, FrM.rf, by rw [hS], by rw [hS]; exact hA⟩
theorem pm_restore {rw tx : Tab} {P : Pce} {ds : List Deed} {sh : Shf} {tl : Int32} {ch : Int64 × Int64} {fn : Fnd} {k : Int32} (hA : AbsM rw tx P ds sh tl ch fn I J) (hO : StOK rw tx P ds sh) : Ct X (d + 7) 66 M_X11_restore 66 [.ref 48, .int k] (I, J, rf0) (RI (fun y9 m => ∃ I', m = (I', J, rf0) ∧ FrM I I' ∧ y9 = (S_restore ds sh fn k).1 ∧ AbsM rw tx P (S_restore ds sh fn k).2.1 sh tl ch (S_restore ds sh fn k).2.2 I' J)) := by
  have hP := hA.2.2.1
  have hQ := hO.2.2.1
  have h14 := hQ.2.1
  have h4 := hQ.1
  have hEv := hA.2.2.2.1
  have hD := hO.2.2.2.1
  have hl40 := hD.1
  have hE := hEv.2.2
  have hR : EvR (evO P ds) := EvR.e.run hQ hD.2
  have hr14 := hR.1
  have hr2 := hR.2.1
  show Go _ _ _ _ _ _ [_, _] _ _ _
  refine g_iload_n dX11_restore_0 rfl ?_
  refine g_i2l dX11_restore_1 ?_
  refine g_lconst (v := 0) dX11_restore_2 (by decide) ?_
  refine g_ldc2 dX11_restore_3 tb_1187 ?_
  refine g_callSi dX11_restore_6 ln_X11_76 ⟨_, rfl⟩ rfl (Nat.le_of_ble_eq_true rfl) (Nat.le_of_ble_eq_true rfl) ct_in rfl (fun r6 m6 h6 => ?_)
  obtain ⟨rfl, rfl⟩ := h6
  rw [inJ_3]
  refine g_if_ne (tgt := 14) dX11_restore_9 (by decide) (fun c9 => ?_) (fun c9 => ?_)
  · skip
    have q1 := bI_ne c9
    obtain ⟨j, hj, rfl⟩ := inR_ix (by decide) q1
    refine g_aload_n dX11_restore_14 rfl ?_
    refine t_getR dX11_restore_15 fl_X11_38 rfl (by decide) rfl (by decide) rfl ?_
    refine g_iload_n dX11_restore_18 rfl ?_
    refine g_iconst (v := 1) dX11_restore_19 (by decide) ?_
    refine g_iadd dX11_restore_20 ?_
    rw [nI_1]
    refine t_iald dX11_restore_21 rfl (by decide) (in_nI (by omega) (by decide)) ?_
    rw [cl_nI (by omega), (hA.2.2.2.2.1 j hj).1]
    refine g_if_ge (tgt := 31) dX11_restore_22 (by decide) (fun c22 => ?_) (fun c22 => ?_)
    · skip
      obtain ⟨es, hes⟩ : ∃ es, sh j = some es := by
        cases hh : sh j with
        | none => rw [hh] at c22; exact absurd c22 (by decide)
        | some q => exact ⟨q, rfl⟩
      have hDe := hO.2.2.2.2 j hj es hes
      have hle := hDe.1
      refine g_aload_n dX11_restore_31 rfl ?_
      refine g_iload_n dX11_restore_32 rfl ?_
      refine g_iconst (v := 1) dX11_restore_33 (by decide) ?_
      refine g_iadd dX11_restore_34 ?_
      rw [nI_1]
      refine g_iconst (v := 0) dX11_restore_35 (by decide) ?_
      refine g_callVv dX11_restore_36 ln_X11_205 rfl rfl (by decide) ⟨_, _, rfl⟩ rfl (Nat.le_of_ble_eq_true rfl) (Nat.le_of_ble_eq_true rfl) (ct_copies (a := j + 1) (b := 0) (by omega) (by decide) (by omega)) rfl (fun m36 h36 => ?_)
      obtain ⟨g, rfl, hg1, hg2⟩ := h36
      obtain ⟨I1, hI1⟩ : ∃ I1, I1 = upR (upR I 58 (upd (I 58) 0 (I 58 (j + 1)))) 59 g := ⟨_, rfl⟩
      rw [← hI1]
      have h58 : I1 58 = upd (I 58) 0 (I 58 (j + 1)) := by rw [hI1, upR_n (by decide), upR_s]
      have h59 : I1 59 = g := by rw [hI1, upR_s]
      have hf1 : Fr [58, 59] I I1 := by rw [hI1]; exact (Fr.rf.up (by decide)).up (by decide)
      have hP2 : PcM P I1 := hP.keep (by rw [hf1 48 (by decide)]) (by rw [hf1 48 (by decide)]) (hf1 54 (by decide)) (hf1 55 (by decide))
      have hm2 : I1 58 0 = nI es.length := by
        rw [h58, pk_us, (hA.2.2.2.2.1 j hj).1, hes]; rfl
      have hds2 : DsM 0 es I1 := fun i d' hd' => by
        have hi := (List.getElem?_eq_some_iff.mp hd').1
        have hh := (hA.2.2.2.2.1 j hj).2 es hes i d' hd'
        have e1 := hg1 (3 * i) (by omega)
        have e2 := hg1 (3 * i + 1) (by omega)
        have e3 := hg1 (3 * i + 2) (by omega)
        rw [Nat.mul_zero] at e1 e2 e3
        rw [h59, Nat.add_assoc, Nat.add_assoc, e1, e2, e3]
        rw [Nat.add_assoc, Nat.add_assoc] at hh
        exact hh
      refine g_aload_n dX11_restore_39 rfl ?_
      refine g_callVv dX11_restore_40 ln_X11_122 rfl rfl (by decide) ⟨_, _, rfl⟩ rfl (Nat.le_of_ble_eq_true rfl) (Nat.le_of_ble_eq_true rfl) (ct_again (ds := es) (n := es.length) hP2 hQ hds2 hDe (Nat.le_refl _) hm2) rfl (fun m40 h40 => ?_)
      obtain ⟨I2, rfl, hf2, hE2⟩ := h40
      refine g_aload_n dX11_restore_43 rfl ?_
      refine t_getR dX11_restore_44 fl_X11_38 rfl (by decide) rfl (by decide) rfl ?_
      refine g_iconst (v := 0) dX11_restore_47 (by decide) ?_
      refine t_iald dX11_restore_48 rfl (by decide) (in_nI (j := 0) (by decide) (by decide)) ?_
      refine g_iret dX11_restore_49 (fun ty h => by cases h; rfl) ?_
      have hS : S_restore ds sh fn (nI j) = (nI es.length, es, fn) := by unfold S_restore; rw [q1, cl_nI (by omega), hes]; rfl
      rw [List.take_length] at hE2
      have hE9 : EvM P es I2 := ⟨by rw [hf2.1 58 (by decide)]; exact hm2, hds2.keep (hf2.1 59 (by decide)), hE2⟩
      have hf9 : Fr [48, 58, 59, 60, 61, 63] I I2 := fun q hq => by
        have q1 : q ∉ [48, 60, 61, 63] := fun a => hq (by simp at a ⊢; omega)
        have q2 : q ∉ [58, 59] := fun a => hq (by simp at a ⊢; omega)
        rw [hf2.1 q q1, hf1 q q2]
      refine ⟨_, rfl, FrM.of hf9 (by decide), ?_, by rw [hS]; exact hA.upEv hf9 (fun j a b c => by rw [hf2.2 j a b c, hf1 48 (by decide)]) (fun j hj => by rw [hf2.1 58 (by decide), h58, pk_un (by omega)]) (fun q hq => by rw [hf2.1 59 (by decide), h59, hg2 _ (by omega)]) hE9⟩
      rw [hS, show (0 : Int32).toNatClampNeg = 0 by decide]
      exact hE9.1
    · skip
      refine g_aload_n dX11_restore_25 rfl ?_
      refine g_iconst (v := 1) dX11_restore_26 (by decide) ?_
      refine g_callVi dX11_restore_27 ln_X11_80 ⟨_, rfl⟩ rfl (by decide) ⟨_, _, rfl⟩ rfl (Nat.le_of_ble_eq_true rfl) (Nat.le_of_ble_eq_true rfl) (ct_finds (w := 1) (by decide)) rfl (fun r27 m27 h27 => ?_)
      obtain ⟨rfl, rfl⟩ := h27
      refine g_iret dX11_restore_30 (fun ty h => by cases h; rfl) ?_
      have hno : sh j = none := by
        cases hh : sh j with
        | none => rfl
        | some es =>
          rw [hh] at c22
          have := (hO.2.2.2.2 j hj es hh).1
          exact absurd (nI_pos' (by omega)) (show ¬ 0 ≤ nI es.length from c22)
      have hS : S_restore ds sh fn (nI j) = (-3, ds, fndS 1 fn) := by unfold S_restore; rw [q1, cl_nI (by omega), hno]; rfl
      exact ⟨_, rfl, FrM.find, by rw [hS], by rw [hS]; exact hA.find (by decide)⟩
  · skip
    refine g_iconst (v := -1) dX11_restore_12 (by decide) ?_
    refine g_iret dX11_restore_13 (fun ty h => by cases h; rfl) ?_
    have hS : S_restore ds sh fn k = (-1, ds, fn) := by unfold S_restore; rw [bI_eq c9]; rfl
    exact ⟨_, rfl, FrM.rf, by rw [hS], by rw [hS]; exact hA⟩
end
