section
variable {X : Nat × (Nat → Int32)} {d : Nat} {I : Nat → Nat → Int32} {J : Nat → Nat → Int64}
/-! ===== promises 44 to 50, class side ===== -/
theorem cntP_ext {p : Nat → Bool} {n : Nat} : ∀ {m : Nat}, n ≤ m → (∀ i, n ≤ i → i < m → p i = false) → cntP p m = cntP p n
  | 0, hn, _ => by rw [show n = 0 by omega]
  | m + 1, hn, h => by
    rcases Nat.lt_or_ge n (m + 1) with q | q
    · rw [cntP_s, h m (by omega) (by omega)]
      exact cntP_ext (m := m) (by omega) (fun i a b => h i a (by omega))
    · rw [show n = m + 1 by omega]
def cntS (P : Pce) (ds : List Deed) (rw tx : Tab) (sh : Shf) (w : Nat) : Nat := match w with
  | 0 => P.1
  | 1 => P.2.1
  | 2 => ds.length
  | 3 => cntP (fun p => decide (¬ (evO P ds).2.2.1 p = 0)) P.1
  | 4 => cntK P 3 P.2.1
  | 5 => cntK P 2 P.2.1
  | 6 => cntP (fun r => (rw.1 r).isSome) 6
  | 7 => cntP (fun r => (tx.1 r).isSome) 4
  | _ => cntP (fun k => (sh k).isSome) 3
def S_count (P : Pce) (ds : List Deed) (rw tx : Tab) (sh : Shf) (w : Int32) : Int32 := if inR w 9 then nI (cntS P ds rw tx sh w.toNatClampNeg) else -1
def S_findings (fn : Fnd) (f : Int32) : Int32 := if 1 ≤ f ∧ f ≤ 5 then fn.2 f.toNatClampNeg else -1
def dgA (P : Pce) (ds : List Deed) (rw tx : Tab) (sh : Shf) (w : Nat) : Int64 := foldN (fun w h => 31 * h + (nI (cntS P ds rw tx sh w)).toInt64) 17 w
def dgW (P : Pce) (x : Nat) (h0 : Int64) (w : Nat) : Int64 := foldN (fun w h => 31 * h + (nI (tlS P x w)).toInt64) h0 w
def dgC (P : Pce) (h0 : Int64) (x : Nat) : Int64 := foldN (fun x h => dgW P x h 3) h0 x
def dgD (o : Nat → Int) (h0 : Int64) (p : Nat) : Int64 := foldN (fun p h => 31 * h + (zI (o p)).toInt64 + 2) h0 p
def dgE (s : Evs) (h0 : Int64) (i : Nat) : Int64 := foldN (fun i h => 31 * h + (nI (s.2.2.2 (s.2.1 + i))).toInt64) h0 i
def dgG (sh : Shf) (h0 : Int64) (k : Nat) : Int64 := foldN (fun k h => 31 * h + (szI ((sh k).map List.length)).toInt64) h0 k
def dg1 (P : Pce) (ds : List Deed) (rw tx : Tab) (sh : Shf) : Int64 := dgA P ds rw tx sh 9
def dg2 (P : Pce) (ds : List Deed) (rw tx : Tab) (sh : Shf) : Int64 := 31 * dg1 P ds rw tx sh + (nI (evO P ds).1).toInt64
def dg3 (P : Pce) (ds : List Deed) (rw tx : Tab) (sh : Shf) : Int64 := dgC P (dg2 P ds rw tx sh) P.2.1
def dg4 (P : Pce) (ds : List Deed) (rw tx : Tab) (sh : Shf) : Int64 := dgD (evO P ds).2.2.1 (dg3 P ds rw tx sh) P.1
def dg5 (P : Pce) (ds : List Deed) (rw tx : Tab) (sh : Shf) : Int64 := dgE (evO P ds) (dg4 P ds rw tx sh) ((evO P ds).1 - (evO P ds).2.1)
def dg6 (P : Pce) (ds : List Deed) (rw tx : Tab) (sh : Shf) : Int64 := dgG sh (dg5 P ds rw tx sh) 3
def S_digest (P : Pce) (ds : List Deed) (rw tx : Tab) (sh : Shf) : Int64 := dgTab 4 tx (dgTab 6 rw (dg6 P ds rw tx sh))
theorem dgA_s (P : Pce) (ds : List Deed) (rw tx : Tab) (sh : Shf) (w : Nat) : dgA P ds rw tx sh (w + 1) = 31 * dgA P ds rw tx sh w + (nI (cntS P ds rw tx sh w)).toInt64 := rfl
theorem dgW_s (P : Pce) (x : Nat) (h0 : Int64) (w : Nat) : dgW P x h0 (w + 1) = 31 * dgW P x h0 w + (nI (tlS P x w)).toInt64 := rfl
theorem dgC_s (P : Pce) (h0 : Int64) (x : Nat) : dgC P h0 (x + 1) = dgW P x (dgC P h0 x) 3 := rfl
theorem dgD_s (o : Nat → Int) (h0 : Int64) (p : Nat) : dgD o h0 (p + 1) = 31 * dgD o h0 p + (zI (o p)).toInt64 + 2 := rfl
theorem dgE_s (s : Evs) (h0 : Int64) (i : Nat) : dgE s h0 (i + 1) = 31 * dgE s h0 i + (nI (s.2.2.2 (s.2.1 + i))).toInt64 := rfl
theorem dgG_s (sh : Shf) (h0 : Int64) (k : Nat) : dgG sh h0 (k + 1) = 31 * dgG sh h0 k + (szI ((sh k).map List.length)).toInt64 := rfl
theorem sz_some {o : Option Nat} (h : ∀ c, o = some c → c < 2 ^ 31) : decide (¬ szI o = -1) = o.isSome := by
  cases o with
  | none => rfl
  | some c => exact decide_eq_true (szI_ne (h c rfl))
theorem ct_countOut : Ct X d 66 M_X1_countOut 66 [.ref 25] (I, J, rf0) (RI (fun y9 m => y9 = nI (cntP (fun (p : Nat) => decide (¬ I 28 p = 0)) 4) ∧ m = (I, J, rf0))) := by
  show Go _ _ _ _ _ _ [_, _, _, _, _, _] _ _ _
  refine g_iconst (v := 0) dX1_countOut_0 (by decide) ?_
  refine g_istore_n dX1_countOut_1 (by decide) ?_
  show Go _ _ _ _ _ _ [_, _, _, _, _, _] _ _ _
  refine g_aload_n dX1_countOut_2 rfl ?_
  refine t_getR dX1_countOut_3 fl_X1_18 rfl (by decide) rfl (by decide) rfl ?_
  refine g_astore_n dX1_countOut_6 (by decide) ?_
  show Go _ _ _ _ _ _ [_, _, _, _, _, _] _ _ _
  refine g_aload_n dX1_countOut_7 rfl ?_
  refine t_alen dX1_countOut_8 rfl (by decide) ?_
  refine g_istore_n dX1_countOut_9 (by decide) ?_
  show Go _ _ _ _ _ _ [_, _, _, _, _, _] _ _ _
  refine g_iconst (v := 0) dX1_countOut_10 (by decide) ?_
  refine g_istore dX1_countOut_11 (by decide) ?_
  show Go _ _ _ _ _ _ [_, _, _, _, _, _] _ _ _
  refine go_ix 4 (fun i => Go X d 66 M_X1_countOut 66 13 [.ref 25, .int (nI (cntP (fun (p : Nat) => decide (¬ I 28 p = 0)) i)), .ref 28, .int (nI 4), .int (nI i), .null] [] (I, J, rf0) (RI (fun y9 m => y9 = nI (cntP (fun (p : Nat) => decide (¬ I 28 p = 0)) 4) ∧ m = (I, J, rf0)))) (fun i hi kk => ?_) ?_
  · skip
    refine g_iload dX1_countOut_13 rfl ?_
    refine g_iload_n dX1_countOut_15 rfl ?_
    refine g_icmp_ge (tgt := 39) dX1_countOut_16 (by decide) (fun c16 => ?_) (fun c16 => ?_)
    · exact absurd (nI_lt hi (by decide)) (Int32.not_lt.mpr c16)
    · skip
      refine g_aload_n dX1_countOut_19 rfl ?_
      refine g_iload dX1_countOut_20 rfl ?_
      refine t_iald dX1_countOut_22 rfl (by decide) (in_nI hi (by decide)) ?_
      refine g_istore dX1_countOut_23 (by decide) ?_
      show Go _ _ _ _ _ _ [_, _, _, _, _, _] _ _ _
      refine g_iload dX1_countOut_25 rfl ?_
      refine g_if_eq (tgt := 33) dX1_countOut_27 (by decide) (fun c27 => ?_) (fun c27 => ?_)
      · skip
        refine g_iinc dX1_countOut_33 rfl (by decide) ?_
        show Go _ _ _ _ _ _ [_, _, _, _, _, _] _ _ _
        refine g_goto (tgt := 13) dX1_countOut_36 (by decide) ?_
        refine g_forget 5 ?_
        show Go _ _ _ _ _ _ [_, _, _, _, _, _] _ _ _
        rw [cntP_s] at kk
        first
          | (rw [cl_nI (by omega)] at c27
             rw [if_neg (by rw [decide_eq_false (not_not_intro c27)]; decide)] at kk
             rw [nI_inc]
             exact kk)
          | (rw [cl_nI (by omega)] at c27
             rw [if_pos (decide_eq_true c27)] at kk
             rw [nI_inc, nI_inc]
             exact kk)
          | fail "no way"
      · skip
        refine g_iinc dX1_countOut_30 rfl (by decide) ?_
        show Go _ _ _ _ _ _ [_, _, _, _, _, _] _ _ _
        refine g_iinc dX1_countOut_33 rfl (by decide) ?_
        show Go _ _ _ _ _ _ [_, _, _, _, _, _] _ _ _
        refine g_goto (tgt := 13) dX1_countOut_36 (by decide) ?_
        refine g_forget 5 ?_
        show Go _ _ _ _ _ _ [_, _, _, _, _, _] _ _ _
        rw [cntP_s] at kk
        first
          | (rw [cl_nI (by omega)] at c27
             rw [if_neg (by rw [decide_eq_false (not_not_intro c27)]; decide)] at kk
             rw [nI_inc]
             exact kk)
          | (rw [cl_nI (by omega)] at c27
             rw [if_pos (decide_eq_true c27)] at kk
             rw [nI_inc, nI_inc]
             exact kk)
          | fail "no way"
  · skip
    refine g_iload dX1_countOut_13 rfl ?_
    refine g_iload_n dX1_countOut_15 rfl ?_
    refine g_icmp_ge (tgt := 39) dX1_countOut_16 (by decide) (fun c16 => ?_) (fun c16 => ?_)
    · skip
      refine g_iload_n dX1_countOut_39 rfl ?_
      refine g_iret dX1_countOut_40 (fun ty h => by cases h; rfl) ?_
      exact ⟨rfl, rfl⟩
    · exact absurd (Int32.le_refl _) c16
theorem ct_tally {rw tx : Tab} {P : Pce} {ds : List Deed} {sh : Shf} {tl : Int32} {ch : Int64 × Int64} {fn : Fnd} {w : Nat} (hA : AbsC rw tx P ds sh tl ch fn I J) (hO : StOK rw tx P ds sh) (hw : w ≤ 8) : Ct X (d + 4) 66 M_X10_tally 66 [.ref 0, .int (nI w)] (I, J, rf0) (RI (fun y9 m => y9 = nI (cntS P ds rw tx sh w) ∧ m = (I, J, rf0))) := by
  have hP := hA.2.2.1
  have hQ := hO.2.2.1
  have h14 := hQ.2.1
  have h4 := hQ.1
  have hEv := hA.2.2.2.1
  have hD := hO.2.2.2.1
  have hE := hEv.2.2
  have hR : EvR (evO P ds) := EvR.e.run hQ hD.2
  have hP2 : EvP P (evO P ds) := EvP.e.run hD.2
  have hr14 := hR.1
  show Go _ _ _ _ _ _ [_, _] _ _ _
  refine g_iload_n dX10_tally_0 rfl ?_
  rcases (show w = 0 ∨ w = 1 ∨ w = 2 ∨ w = 3 ∨ w = 4 ∨ w = 5 ∨ w = 6 ∨ w = 7 ∨ w = 8 by omega) with rfl | rfl | rfl | rfl | rfl | rfl | rfl | rfl | rfl
  · skip
    refine g_tabIn (off := 47) (tgt := 48) dX10_tally_1 (by decide) (by decide) (by decide) (by decide) ?_
    refine g_aload_n dX10_tally_48 rfl ?_
    refine t_getR dX10_tally_49 fl_X10_35 rfl (by decide) rfl (by decide) rfl ?_
    refine t_getI dX10_tally_52 fl_X10_329 rfl (by decide) rfl (by decide) ?_
    refine g_iret dX10_tally_55 (fun ty h => by cases h; rfl) ?_
    exact ⟨hP.1, rfl⟩
  · skip
    refine g_tabIn (off := 55) (tgt := 56) dX10_tally_1 (by decide) (by decide) (by decide) (by decide) ?_
    refine g_aload_n dX10_tally_56 rfl ?_
    refine t_getR dX10_tally_57 fl_X10_35 rfl (by decide) rfl (by decide) rfl ?_
    refine t_getI dX10_tally_60 fl_X10_165 rfl (by decide) rfl (by decide) ?_
    refine g_iret dX10_tally_63 (fun ty h => by cases h; rfl) ?_
    exact ⟨hP.2.1, rfl⟩
  · skip
    refine g_tabIn (off := 63) (tgt := 64) dX10_tally_1 (by decide) (by decide) (by decide) (by decide) ?_
    refine g_aload_n dX10_tally_64 rfl ?_
    refine t_getR dX10_tally_65 fl_X10_44 rfl (by decide) rfl (by decide) rfl ?_
    refine t_getI dX10_tally_68 fl_X10_212 rfl (by decide) rfl (by decide) ?_
    refine g_iret dX10_tally_71 (fun ty h => by cases h; rfl) ?_
    exact ⟨hEv.1, rfl⟩
  · skip
    refine g_tabIn (off := 71) (tgt := 72) dX10_tally_1 (by decide) (by decide) (by decide) (by decide) ?_
    refine g_aload_n dX10_tally_72 rfl ?_
    refine t_getR dX10_tally_73 fl_X10_44 rfl (by decide) rfl (by decide) rfl ?_
    refine g_callVi dX10_tally_76 ln_X10_363 ⟨_, rfl⟩ rfl (by decide) ⟨_, _, rfl⟩ rfl (Nat.le_of_ble_eq_true rfl) (Nat.le_of_ble_eq_true rfl) ct_countOut rfl (fun r76 m76 h76 => ?_)
    obtain ⟨rfl, rfl⟩ := h76
    refine g_iret dX10_tally_79 (fun ty h => by cases h; rfl) ?_
    refine ⟨congrArg nI ?_, rfl⟩
    refine Eq.trans (b := cntP (fun p => decide (¬ (evO P ds).2.2.1 p = 0)) 4) (cntP_congr (fun i hi => ?_)) (cntP_ext h4 (fun i a b => decide_eq_false (not_not_intro (hP2.2 i a))))
    have hb := hR.2.2.1 i hi
    rw [hE.2.2.1 i hi]
    exact decide_eq_decide.mpr (by rw [show (0 : Int32) = zI 0 from rfl, z_eq (by omega) (by omega)])
  · skip
    refine g_tabIn (off := 79) (tgt := 80) dX10_tally_1 (by decide) (by decide) (by decide) (by decide) ?_
    refine g_aload_n dX10_tally_80 rfl ?_
    refine t_getR dX10_tally_81 fl_X10_35 rfl (by decide) rfl (by decide) rfl ?_
    refine g_iconst (v := 3) dX10_tally_84 (by decide) ?_
    refine g_callVi dX10_tally_85 ln_X10_323 ⟨_, rfl⟩ rfl (by decide) ⟨_, _, rfl⟩ rfl (Nat.le_of_ble_eq_true rfl) (Nat.le_of_ble_eq_true rfl) (ct_countOf (w := 3) hP hQ (by decide)) rfl (fun r85 m85 h85 => ?_)
    obtain ⟨rfl, rfl⟩ := h85
    refine g_iret dX10_tally_88 (fun ty h => by cases h; rfl) ?_
    exact ⟨rfl, rfl⟩
  · skip
    refine g_tabIn (off := 88) (tgt := 89) dX10_tally_1 (by decide) (by decide) (by decide) (by decide) ?_
    refine g_aload_n dX10_tally_89 rfl ?_
    refine t_getR dX10_tally_90 fl_X10_35 rfl (by decide) rfl (by decide) rfl ?_
    refine g_iconst (v := 2) dX10_tally_93 (by decide) ?_
    refine g_callVi dX10_tally_94 ln_X10_323 ⟨_, rfl⟩ rfl (by decide) ⟨_, _, rfl⟩ rfl (Nat.le_of_ble_eq_true rfl) (Nat.le_of_ble_eq_true rfl) (ct_countOf (w := 2) hP hQ (by decide)) rfl (fun r94 m94 h94 => ?_)
    obtain ⟨rfl, rfl⟩ := h94
    refine g_iret dX10_tally_97 (fun ty h => by cases h; rfl) ?_
    exact ⟨rfl, rfl⟩
  · skip
    refine g_tabIn (off := 97) (tgt := 98) dX10_tally_1 (by decide) (by decide) (by decide) (by decide) ?_
    refine g_aload_n dX10_tally_98 rfl ?_
    refine t_getR dX10_tally_99 fl_X10_10 rfl (by decide) rfl (by decide) rfl ?_
    refine t_getR dX10_tally_102 fl_X10_86 rfl (by decide) rfl (by decide) rfl ?_
    refine g_callVi dX10_tally_105 ln_X10_366 ⟨_, rfl⟩ rfl (by decide) ⟨_, _, rfl⟩ rfl (Nat.le_of_ble_eq_true rfl) (Nat.le_of_ble_eq_true rfl) (ct_countThere sz_rows) rfl (fun r105 m105 h105 => ?_)
    obtain ⟨rfl, rfl⟩ := h105
    refine g_iret dX10_tally_108 (fun ty h => by cases h; rfl) ?_
    refine ⟨congrArg nI (cntP_congr (fun i hi => ?_)), rfl⟩
    rw [(hA.1 i hi).1]
    exact sz_some (fun c hc => by have := hO.1 i hi c hc; omega)
  · skip
    refine g_tabIn (off := 108) (tgt := 109) dX10_tally_1 (by decide) (by decide) (by decide) (by decide) ?_
    refine g_aload_n dX10_tally_109 rfl ?_
    refine t_getR dX10_tally_110 fl_X10_19 rfl (by decide) rfl (by decide) rfl ?_
    refine t_getR dX10_tally_113 fl_X10_144 rfl (by decide) rfl (by decide) rfl ?_
    refine g_callVi dX10_tally_116 ln_X10_366 ⟨_, rfl⟩ rfl (by decide) ⟨_, _, rfl⟩ rfl (Nat.le_of_ble_eq_true rfl) (Nat.le_of_ble_eq_true rfl) (ct_countThere sz_texts) rfl (fun r116 m116 h116 => ?_)
    obtain ⟨rfl, rfl⟩ := h116
    refine g_iret dX10_tally_119 (fun ty h => by cases h; rfl) ?_
    refine ⟨congrArg nI (cntP_congr (fun i hi => ?_)), rfl⟩
    rw [(hA.2.1 i hi).1]
    exact sz_some (fun c hc => by have := hO.2.1 i hi c hc; omega)
  · skip
    refine g_tabOut (tgt := 120) dX10_tally_1 (by decide) (by decide) ?_
    refine g_aload_n dX10_tally_120 rfl ?_
    refine t_getR dX10_tally_121 fl_X10_51 rfl (by decide) rfl (by decide) rfl ?_
    refine t_getR dX10_tally_124 fl_X10_161 rfl (by decide) rfl (by decide) rfl ?_
    refine g_callVi dX10_tally_127 ln_X10_366 ⟨_, rfl⟩ rfl (by decide) ⟨_, _, rfl⟩ rfl (Nat.le_of_ble_eq_true rfl) (Nat.le_of_ble_eq_true rfl) (ct_countThere sz_shelf) rfl (fun r127 m127 h127 => ?_)
    obtain ⟨rfl, rfl⟩ := h127
    refine g_iret dX10_tally_130 (fun ty h => by cases h; rfl) ?_
    refine ⟨congrArg nI (cntP_congr (fun i hi => ?_)), rfl⟩
    rw [(hA.2.2.2.2.1 i hi).1]
    cases hs : sh i with
    | none => rfl
    | some es => exact sz_some (o := some es.length) (fun c hc => by have := (hO.2.2.2.2 i hi es hs).1; cases hc; omega)
theorem pc_asked {rw tx : Tab} {P : Pce} {ds : List Deed} {sh : Shf} {tl : Int32} {ch : Int64 × Int64} {fn : Fnd} (hA : AbsC rw tx P ds sh tl ch fn I J) (hO : StOK rw tx P ds sh) : Ct X d 66 M_X10_asked 66 [.ref 0] (I, J, rf0) (RI (fun y9 m => ∃ I', m = (I', J, rf0) ∧ FrC I I' ∧ y9 = tl ∧ AbsC rw tx P ds sh tl ch fn I' J)) := by
  show Go _ _ _ _ _ _ [_] _ _ _
  refine g_aload_n dX10_asked_0 rfl ?_
  refine t_getI dX10_asked_1 fl_X10_111 rfl (by decide) rfl (by decide) ?_
  refine g_iret dX10_asked_4 (fun ty h => by cases h; rfl) ?_
  exact ⟨_, rfl, FrC.rf, hA.2.2.2.2.2.1, hA⟩
theorem pc_upper {rw tx : Tab} {P : Pce} {ds : List Deed} {sh : Shf} {tl : Int32} {ch : Int64 × Int64} {fn : Fnd} (hA : AbsC rw tx P ds sh tl ch fn I J) (hO : StOK rw tx P ds sh) : Ct X d 66 M_X10_upper 66 [.ref 0] (I, J, rf0) (RJ (fun y9 m => ∃ I', m = (I', J, rf0) ∧ FrC I I' ∧ y9 = ch.1 ∧ AbsC rw tx P ds sh tl ch fn I' J)) := by
  show Go _ _ _ _ _ _ [_] _ _ _
  refine g_aload_n dX10_upper_0 rfl ?_
  refine t_getJ dX10_upper_1 fl_X10_340 rfl (by decide) rfl (by decide) ?_
  refine g_lret dX10_upper_4 rfl ?_
  exact ⟨_, rfl, FrC.rf, hA.2.2.2.2.2.2.1.1, hA⟩
theorem pc_lower {rw tx : Tab} {P : Pce} {ds : List Deed} {sh : Shf} {tl : Int32} {ch : Int64 × Int64} {fn : Fnd} (hA : AbsC rw tx P ds sh tl ch fn I J) (hO : StOK rw tx P ds sh) : Ct X d 66 M_X10_lower 66 [.ref 0] (I, J, rf0) (RJ (fun y9 m => ∃ I', m = (I', J, rf0) ∧ FrC I I' ∧ y9 = ch.2 ∧ AbsC rw tx P ds sh tl ch fn I' J)) := by
  show Go _ _ _ _ _ _ [_] _ _ _
  refine g_aload_n dX10_lower_0 rfl ?_
  refine t_getJ dX10_lower_1 fl_X10_82 rfl (by decide) rfl (by decide) ?_
  refine g_lret dX10_lower_4 rfl ?_
  exact ⟨_, rfl, FrC.rf, hA.2.2.2.2.2.2.1.2, hA⟩
theorem pc_finding {rw tx : Tab} {P : Pce} {ds : List Deed} {sh : Shf} {tl : Int32} {ch : Int64 × Int64} {fn : Fnd} (hA : AbsC rw tx P ds sh tl ch fn I J) (hO : StOK rw tx P ds sh) : Ct X d 66 M_X10_finding 66 [.ref 0] (I, J, rf0) (RI (fun y9 m => ∃ I', m = (I', J, rf0) ∧ FrC I I' ∧ y9 = fn.1 ∧ AbsC rw tx P ds sh tl ch fn I' J)) := by
  show Go _ _ _ _ _ _ [_] _ _ _
  refine g_aload_n dX10_finding_0 rfl ?_
  refine t_getI dX10_finding_1 fl_X10_346 rfl (by decide) rfl (by decide) ?_
  refine g_iret dX10_finding_4 (fun ty h => by cases h; rfl) ?_
  exact ⟨_, rfl, FrC.rf, hA.2.2.2.2.2.2.2.1, hA⟩
theorem inR_9 {w : Int32} : inR w 9 = true ↔ 0 ≤ w ∧ w ≤ 8 := by
  rw [inR_iff]
  have e : ∀ v : Int32, v < nI 9 ↔ v ≤ 8 := fun v => by
    rw [Int32.lt_iff_toInt_lt, Int32.le_iff_toInt_le, show (nI 9).toInt = 9 by decide, show (8 : Int32).toInt = 8 by decide]
    omega
  rw [e]
theorem pc_count {rw tx : Tab} {P : Pce} {ds : List Deed} {sh : Shf} {tl : Int32} {ch : Int64 × Int64} {fn : Fnd} {w : Int32} (hA : AbsC rw tx P ds sh tl ch fn I J) (hO : StOK rw tx P ds sh) : Ct X (d + 5) 66 M_X10_count 66 [.ref 0, .int w] (I, J, rf0) (RI (fun y9 m => ∃ I', m = (I', J, rf0) ∧ FrC I I' ∧ y9 = S_count P ds rw tx sh w ∧ AbsC rw tx P ds sh tl ch fn I' J)) := by
  show Go _ _ _ _ _ _ [_, _] _ _ _
  refine g_iload_n dX10_count_0 rfl ?_
  refine g_if_lt (tgt := 10) dX10_count_1 (by decide) (fun c1 => ?_) (fun c1 => ?_)
  · skip
    refine g_iconst (v := -1) dX10_count_10 (by decide) ?_
    refine g_iret dX10_count_11 (fun ty h => by cases h; rfl) ?_
    refine ⟨_, rfl, FrC.rf, ?_, hA⟩
    unfold S_count
    rw [if_neg (fun q => by
      have q2 := inR_9.mp q
      first
        | exact absurd c1 (Int32.not_lt.mpr q2.1)
        | exact c7 q2.2)]
  · skip
    refine g_iload_n dX10_count_4 rfl ?_
    refine g_bipush (v := 8) dX10_count_5 (by decide) ?_
    refine g_icmp_le (tgt := 12) dX10_count_7 (by decide) (fun c7 => ?_) (fun c7 => ?_)
    · skip
      have q1 : inR w 9 = true := inR_9.mpr ⟨not_lt_le c1, c7⟩
      obtain ⟨w, hw, rfl⟩ := inR_ix (by decide) q1
      refine g_aload_n dX10_count_12 rfl ?_
      refine g_iload_n dX10_count_13 rfl ?_
      refine g_callVi dX10_count_14 ln_X10_343 ⟨_, rfl⟩ rfl (by decide) ⟨_, _, rfl⟩ rfl (Nat.le_of_ble_eq_true rfl) (Nat.le_of_ble_eq_true rfl) (ct_tally hA hO (by omega)) rfl (fun r14 m14 h14 => ?_)
      obtain ⟨rfl, rfl⟩ := h14
      refine g_iret dX10_count_17 (fun ty h => by cases h; rfl) ?_
      exact ⟨_, rfl, FrC.rf, by unfold S_count; rw [q1, cl_nI (by omega)]; rfl, hA⟩
    · skip
      refine g_iconst (v := -1) dX10_count_10 (by decide) ?_
      refine g_iret dX10_count_11 (fun ty h => by cases h; rfl) ?_
      refine ⟨_, rfl, FrC.rf, ?_, hA⟩
      unfold S_count
      rw [if_neg (fun q => by
        have q2 := inR_9.mp q
        first
          | exact absurd c1 (Int32.not_lt.mpr q2.1)
          | exact c7 q2.2)]
theorem pc_findings {rw tx : Tab} {P : Pce} {ds : List Deed} {sh : Shf} {tl : Int32} {ch : Int64 × Int64} {fn : Fnd} {f : Int32} (hA : AbsC rw tx P ds sh tl ch fn I J) (hO : StOK rw tx P ds sh) : Ct X d 66 M_X10_findings 66 [.ref 0, .int f] (I, J, rf0) (RI (fun y9 m => ∃ I', m = (I', J, rf0) ∧ FrC I I' ∧ y9 = S_findings fn f ∧ AbsC rw tx P ds sh tl ch fn I' J)) := by
  show Go _ _ _ _ _ _ [_, _] _ _ _
  refine g_iload_n dX10_findings_0 rfl ?_
  refine g_iconst (v := 1) dX10_findings_1 (by decide) ?_
  refine g_icmp_lt (tgt := 10) dX10_findings_2 (by decide) (fun c2 => ?_) (fun c2 => ?_)
  · skip
    refine g_iconst (v := -1) dX10_findings_10 (by decide) ?_
    refine g_iret dX10_findings_11 (fun ty h => by cases h; rfl) ?_
    refine ⟨_, rfl, FrC.rf, ?_, hA⟩
    unfold S_findings
    rw [if_neg (fun q => by
      first
        | exact absurd q.1 (Int32.not_le.mpr c2)
        | exact c7 q.2)]
  · skip
    refine g_iload_n dX10_findings_5 rfl ?_
    refine g_iconst (v := 5) dX10_findings_6 (by decide) ?_
    refine g_icmp_le (tgt := 12) dX10_findings_7 (by decide) (fun c7 => ?_) (fun c7 => ?_)
    · skip
      have q1 : 1 ≤ f ∧ f ≤ 5 := ⟨not_lt_le c2, c7⟩
      obtain ⟨j, hj, rfl⟩ := lot_n q1.1 (lot_b (m := 6) q1.2 (by decide) (by decide)) (by decide)
      refine g_aload_n dX10_findings_12 rfl ?_
      refine t_getR dX10_findings_13 fl_X10_78 rfl (by decide) rfl (by decide) rfl ?_
      refine g_iload_n dX10_findings_16 rfl ?_
      refine t_iald dX10_findings_17 rfl (by decide) (in_nI hj (by decide)) ?_
      refine g_iret dX10_findings_18 (fun ty h => by cases h; rfl) ?_
      exact ⟨_, rfl, FrC.rf, by unfold S_findings; rw [if_pos q1, cl_nI (by omega)]; exact hA.2.2.2.2.2.2.2.2 j hj, hA⟩
    · skip
      refine g_iconst (v := -1) dX10_findings_10 (by decide) ?_
      refine g_iret dX10_findings_11 (fun ty h => by cases h; rfl) ?_
      refine ⟨_, rfl, FrC.rf, ?_, hA⟩
      unfold S_findings
      rw [if_neg (fun q => by
        first
          | exact absurd q.1 (Int32.not_le.mpr c2)
          | exact c7 q.2)]
theorem pc_digest {rw tx : Tab} {P : Pce} {ds : List Deed} {sh : Shf} {tl : Int32} {ch : Int64 × Int64} {fn : Fnd} (hA : AbsC rw tx P ds sh tl ch fn I J) (hO : StOK rw tx P ds sh) : Ct X (d + 5) 66 M_X10_digest 66 [.ref 0] (I, J, rf0) (RJ (fun y9 m => ∃ I', m = (I', J, rf0) ∧ FrC I I' ∧ y9 = S_digest P ds rw tx sh ∧ AbsC rw tx P ds sh tl ch fn I' J)) := by
  have hP := hA.2.2.1
  have hQ := hO.2.2.1
  have h14 := hQ.2.1
  have h4 := hQ.1
  have hEv := hA.2.2.2.1
  have hD := hO.2.2.2.1
  have hE := hEv.2.2
  have hR : EvR (evO P ds) := EvR.e.run hQ hD.2
  have hP2 : EvP P (evO P ds) := EvP.e.run hD.2
  have hr14 := hR.1
  have hr2 := hR.2.1
  show Go _ _ _ _ _ _ [_, _, _, _, _] _ _ _
  refine g_ldc2 dX10_digest_0 tb_973 ?_
  refine g_lstore_n dX10_digest_3 (by decide) ?_
  show Go _ _ _ _ _ _ [_, _, _, _, _] _ _ _
  refine g_iconst (v := 0) dX10_digest_4 (by decide) ?_
  refine g_istore_n dX10_digest_5 (by decide) ?_
  show Go _ _ _ _ _ _ [_, _, _, _, _] _ _ _
  refine go_ix 9 (fun w => Go X (d + 5) 66 M_X10_digest 66 6 [.ref 0, .long (dgA P ds rw tx sh w), .null, .int (nI w), .null] [] (I, J, rf0) (RJ (fun y9 m => ∃ I', m = (I', J, rf0) ∧ FrC I I' ∧ y9 = S_digest P ds rw tx sh ∧ AbsC rw tx P ds sh tl ch fn I' J))) (fun w hw kk => ?_) ?_
  · skip
    refine g_iload_n dX10_digest_6 rfl ?_
    refine g_bipush (v := 8) dX10_digest_7 (by decide) ?_
    refine g_icmp_gt (tgt := 31) dX10_digest_9 (by decide) (fun c9 => ?_) (fun c9 => ?_)
    · exact absurd c9 (Int32.not_lt.mpr (nI_le (show w ≤ 8 by omega) (by decide)))
    · skip
      refine g_ldc2 dX10_digest_12 tb_974 ?_
      refine g_lload_n dX10_digest_15 rfl ?_
      refine g_lmul dX10_digest_16 ?_
      refine g_aload_n dX10_digest_17 rfl ?_
      refine g_iload_n dX10_digest_18 rfl ?_
      refine g_callVi dX10_digest_19 ln_X10_343 ⟨_, rfl⟩ rfl (by decide) ⟨_, _, rfl⟩ rfl (Nat.le_of_ble_eq_true rfl) (Nat.le_of_ble_eq_true rfl) (ct_tally (w := w) hA hO (by omega)) rfl (fun r19 m19 h19 => ?_)
      obtain ⟨rfl, rfl⟩ := h19
      refine g_i2l dX10_digest_22 ?_
      refine g_ladd dX10_digest_23 ?_
      refine g_lstore_n dX10_digest_24 (by decide) ?_
      show Go _ _ _ _ _ _ [_, _, _, _, _] _ _ _
      refine g_iinc dX10_digest_25 rfl (by decide) ?_
      show Go _ _ _ _ _ _ [_, _, _, _, _] _ _ _
      refine g_goto (tgt := 6) dX10_digest_28 (by decide) ?_
      rw [dgA_s] at kk
      rw [nI_inc]
      exact kk
  · skip
    refine g_iload_n dX10_digest_6 rfl ?_
    refine g_bipush (v := 8) dX10_digest_7 (by decide) ?_
    refine g_icmp_gt (tgt := 31) dX10_digest_9 (by decide) (fun c9 => ?_) (fun c9 => ?_)
    · skip
      refine g_ldc2 dX10_digest_31 tb_974 ?_
      refine g_lload_n dX10_digest_34 rfl ?_
      refine g_lmul dX10_digest_35 ?_
      refine g_aload_n dX10_digest_36 rfl ?_
      refine t_getR dX10_digest_37 fl_X10_44 rfl (by decide) rfl (by decide) rfl ?_
      refine t_getI dX10_digest_40 fl_X10_194 rfl (by decide) rfl (by decide) ?_
      rw [hE.1]
      refine g_i2l dX10_digest_43 ?_
      refine g_ladd dX10_digest_44 ?_
      rw [show (31 : Int64) * dgA P ds rw tx sh 9 + (nI (evO P ds).1).toInt64 = dg2 P ds rw tx sh from rfl]
      refine g_lstore_n dX10_digest_45 (by decide) ?_
      show Go _ _ _ _ _ _ [_, _, _, _, _] _ _ _
      refine g_iconst (v := 0) dX10_digest_46 (by decide) ?_
      refine g_istore_n dX10_digest_47 (by decide) ?_
      show Go _ _ _ _ _ _ [_, _, _, _, _] _ _ _
      refine go_ix P.2.1 (fun x => Go X (d + 5) 66 M_X10_digest 66 48 [.ref 0, .long (dgC P (dg2 P ds rw tx sh) x), .null, .int (nI x), .null] [] (I, J, rf0) (RJ (fun y9 m => ∃ I', m = (I', J, rf0) ∧ FrC I I' ∧ y9 = S_digest P ds rw tx sh ∧ AbsC rw tx P ds sh tl ch fn I' J))) (fun x hx kk => ?_) ?_
      · skip
        refine g_iload_n dX10_digest_48 rfl ?_
        refine g_aload_n dX10_digest_49 rfl ?_
        refine t_getR dX10_digest_50 fl_X10_35 rfl (by decide) rfl (by decide) rfl ?_
        refine t_getI dX10_digest_53 fl_X10_165 rfl (by decide) rfl (by decide) ?_
        rw [hP.2.1]
        refine g_icmp_ge (tgt := 98) dX10_digest_56 (by decide) (fun c56 => ?_) (fun c56 => ?_)
        · exact absurd (nI_lt hx (by omega)) (Int32.not_lt.mpr c56)
        · skip
          refine g_iconst (v := 0) dX10_digest_59 (by decide) ?_
          refine g_istore dX10_digest_60 (by decide) ?_
          show Go _ _ _ _ _ _ [_, _, _, _, _] _ _ _
          refine go_ix 3 (fun v => Go X (d + 5) 66 M_X10_digest 66 62 [.ref 0, .long (dgW P x (dgC P (dg2 P ds rw tx sh) x) v), .null, .int (nI x), .int (nI v)] [] (I, J, rf0) (RJ (fun y9 m => ∃ I', m = (I', J, rf0) ∧ FrC I I' ∧ y9 = S_digest P ds rw tx sh ∧ AbsC rw tx P ds sh tl ch fn I' J))) (fun v hv kk2 => ?_) ?_
          · skip
            refine g_iload dX10_digest_62 rfl ?_
            refine g_iconst (v := 2) dX10_digest_64 (by decide) ?_
            refine g_icmp_gt (tgt := 92) dX10_digest_65 (by decide) (fun c65 => ?_) (fun c65 => ?_)
            · exact absurd c65 (Int32.not_lt.mpr (nI_le (show v ≤ 2 by omega) (by decide)))
            · skip
              refine g_ldc2 dX10_digest_68 tb_974 ?_
              refine g_lload_n dX10_digest_71 rfl ?_
              refine g_lmul dX10_digest_72 ?_
              refine g_aload_n dX10_digest_73 rfl ?_
              refine t_getR dX10_digest_74 fl_X10_35 rfl (by decide) rfl (by decide) rfl ?_
              refine g_iload_n dX10_digest_77 rfl ?_
              refine g_iload dX10_digest_78 rfl ?_
              refine g_callVi dX10_digest_80 ln_X10_171 ⟨_, rfl⟩ rfl (by decide) ⟨_, _, rfl⟩ rfl (Nat.le_of_ble_eq_true rfl) (Nat.le_of_ble_eq_true rfl) (ct_tellOf (x := x) (w := v) hP hQ hx (by omega)) rfl (fun r80 m80 h80 => ?_)
              obtain ⟨rfl, rfl⟩ := h80
              refine g_i2l dX10_digest_83 ?_
              refine g_ladd dX10_digest_84 ?_
              refine g_lstore_n dX10_digest_85 (by decide) ?_
              show Go _ _ _ _ _ _ [_, _, _, _, _] _ _ _
              refine g_iinc dX10_digest_86 rfl (by decide) ?_
              show Go _ _ _ _ _ _ [_, _, _, _, _] _ _ _
              refine g_goto (tgt := 62) dX10_digest_89 (by decide) ?_
              rw [dgW_s] at kk2
              rw [nI_inc]
              exact kk2
          · skip
            refine g_iload dX10_digest_62 rfl ?_
            refine g_iconst (v := 2) dX10_digest_64 (by decide) ?_
            refine g_icmp_gt (tgt := 92) dX10_digest_65 (by decide) (fun c65 => ?_) (fun c65 => ?_)
            · skip
              refine g_iinc dX10_digest_92 rfl (by decide) ?_
              show Go _ _ _ _ _ _ [_, _, _, _, _] _ _ _
              refine g_goto (tgt := 48) dX10_digest_95 (by decide) ?_
              refine g_forget 4 ?_
              show Go _ _ _ _ _ _ [_, _, _, _, _] _ _ _
              rw [dgC_s] at kk
              rw [nI_inc]
              exact kk
            · exact absurd (by decide) c65
      · skip
        refine g_iload_n dX10_digest_48 rfl ?_
        refine g_aload_n dX10_digest_49 rfl ?_
        refine t_getR dX10_digest_50 fl_X10_35 rfl (by decide) rfl (by decide) rfl ?_
        refine t_getI dX10_digest_53 fl_X10_165 rfl (by decide) rfl (by decide) ?_
        rw [hP.2.1]
        refine g_icmp_ge (tgt := 98) dX10_digest_56 (by decide) (fun c56 => ?_) (fun c56 => ?_)
        · skip
          rw [show dgC P (dg2 P ds rw tx sh) P.2.1 = dg3 P ds rw tx sh from rfl]
          refine g_iconst (v := 0) dX10_digest_98 (by decide) ?_
          refine g_istore_n dX10_digest_99 (by decide) ?_
          show Go _ _ _ _ _ _ [_, _, _, _, _] _ _ _
          refine go_ix P.1 (fun p => Go X (d + 5) 66 M_X10_digest 66 100 [.ref 0, .long (dgD (evO P ds).2.2.1 (dg3 P ds rw tx sh) p), .null, .int (nI p), .null] [] (I, J, rf0) (RJ (fun y9 m => ∃ I', m = (I', J, rf0) ∧ FrC I I' ∧ y9 = S_digest P ds rw tx sh ∧ AbsC rw tx P ds sh tl ch fn I' J))) (fun p hp kk => ?_) ?_
          · skip
            refine g_iload_n dX10_digest_100 rfl ?_
            refine g_aload_n dX10_digest_101 rfl ?_
            refine t_getR dX10_digest_102 fl_X10_35 rfl (by decide) rfl (by decide) rfl ?_
            refine t_getI dX10_digest_105 fl_X10_329 rfl (by decide) rfl (by decide) ?_
            rw [hP.1]
            refine g_icmp_ge (tgt := 137) dX10_digest_108 (by decide) (fun c108 => ?_) (fun c108 => ?_)
            · exact absurd (nI_lt hp (by omega)) (Int32.not_lt.mpr c108)
            · skip
              refine g_ldc2 dX10_digest_111 tb_974 ?_
              refine g_lload_n dX10_digest_114 rfl ?_
              refine g_lmul dX10_digest_115 ?_
              refine g_aload_n dX10_digest_116 rfl ?_
              refine t_getR dX10_digest_117 fl_X10_44 rfl (by decide) rfl (by decide) rfl ?_
              refine g_iload_n dX10_digest_120 rfl ?_
              refine g_callVi dX10_digest_121 ln_X10_206 ⟨_, rfl⟩ rfl (by decide) ⟨_, _, rfl⟩ rfl (Nat.le_of_ble_eq_true rfl) (Nat.le_of_ble_eq_true rfl) (ct_outOf (p := p) hE.2.2.1 (by omega)) rfl (fun r121 m121 h121 => ?_)
              obtain ⟨rfl, rfl⟩ := h121
              refine g_i2l dX10_digest_124 ?_
              refine g_ladd dX10_digest_125 ?_
              refine g_ldc2 dX10_digest_126 tb_975 ?_
              refine g_ladd dX10_digest_129 ?_
              refine g_lstore_n dX10_digest_130 (by decide) ?_
              show Go _ _ _ _ _ _ [_, _, _, _, _] _ _ _
              refine g_iinc dX10_digest_131 rfl (by decide) ?_
              show Go _ _ _ _ _ _ [_, _, _, _, _] _ _ _
              refine g_goto (tgt := 100) dX10_digest_134 (by decide) ?_
              rw [dgD_s] at kk
              rw [nI_inc]
              exact kk
          · skip
            refine g_iload_n dX10_digest_100 rfl ?_
            refine g_aload_n dX10_digest_101 rfl ?_
            refine t_getR dX10_digest_102 fl_X10_35 rfl (by decide) rfl (by decide) rfl ?_
            refine t_getI dX10_digest_105 fl_X10_329 rfl (by decide) rfl (by decide) ?_
            rw [hP.1]
            refine g_icmp_ge (tgt := 137) dX10_digest_108 (by decide) (fun c108 => ?_) (fun c108 => ?_)
            · skip
              rw [show dgD (evO P ds).2.2.1 (dg3 P ds rw tx sh) P.1 = dg4 P ds rw tx sh from rfl]
              refine g_aload_n dX10_digest_137 rfl ?_
              refine t_getR dX10_digest_138 fl_X10_44 rfl (by decide) rfl (by decide) rfl ?_
              refine t_getI dX10_digest_141 fl_X10_218 rfl (by decide) rfl (by decide) ?_
              rw [hE.2.1]
              refine g_istore_n dX10_digest_144 (by decide) ?_
              show Go _ _ _ _ _ _ [_, _, _, _, _] _ _ _
              refine go_ix ((evO P ds).1 - (evO P ds).2.1) (fun i => Go X (d + 5) 66 M_X10_digest 66 145 [.ref 0, .long (dgE (evO P ds) (dg4 P ds rw tx sh) i), .null, .int (nI ((evO P ds).2.1 + i)), .null] [] (I, J, rf0) (RJ (fun y9 m => ∃ I', m = (I', J, rf0) ∧ FrC I I' ∧ y9 = S_digest P ds rw tx sh ∧ AbsC rw tx P ds sh tl ch fn I' J))) (fun i hi kk => ?_) ?_
              · skip
                refine g_iload_n dX10_digest_145 rfl ?_
                refine g_aload_n dX10_digest_146 rfl ?_
                refine t_getR dX10_digest_147 fl_X10_44 rfl (by decide) rfl (by decide) rfl ?_
                refine t_getI dX10_digest_150 fl_X10_194 rfl (by decide) rfl (by decide) ?_
                rw [hE.1]
                refine g_icmp_ge (tgt := 178) dX10_digest_153 (by decide) (fun c153 => ?_) (fun c153 => ?_)
                · exact absurd (nI_lt (show (evO P ds).2.1 + i < (evO P ds).1 by omega) (by omega)) (Int32.not_lt.mpr c153)
                · skip
                  refine g_ldc2 dX10_digest_156 tb_974 ?_
                  refine g_lload_n dX10_digest_159 rfl ?_
                  refine g_lmul dX10_digest_160 ?_
                  refine g_aload_n dX10_digest_161 rfl ?_
                  refine t_getR dX10_digest_162 fl_X10_44 rfl (by decide) rfl (by decide) rfl ?_
                  refine g_iload_n dX10_digest_165 rfl ?_
                  refine g_callVi dX10_digest_166 ln_X10_200 ⟨_, rfl⟩ rfl (by decide) ⟨_, _, rfl⟩ rfl (Nat.le_of_ble_eq_true rfl) (Nat.le_of_ble_eq_true rfl) (ct_heardOf (x := (evO P ds).2.1 + i) hE hR (by omega) (by omega)) rfl (fun r166 m166 h166 => ?_)
                  obtain ⟨rfl, rfl⟩ := h166
                  refine g_i2l dX10_digest_169 ?_
                  refine g_ladd dX10_digest_170 ?_
                  refine g_lstore_n dX10_digest_171 (by decide) ?_
                  show Go _ _ _ _ _ _ [_, _, _, _, _] _ _ _
                  refine g_iinc dX10_digest_172 rfl (by decide) ?_
                  show Go _ _ _ _ _ _ [_, _, _, _, _] _ _ _
                  refine g_goto (tgt := 145) dX10_digest_175 (by decide) ?_
                  rw [dgE_s] at kk
                  rw [nI_inc]
                  exact kk
              · skip
                refine g_iload_n dX10_digest_145 rfl ?_
                refine g_aload_n dX10_digest_146 rfl ?_
                refine t_getR dX10_digest_147 fl_X10_44 rfl (by decide) rfl (by decide) rfl ?_
                refine t_getI dX10_digest_150 fl_X10_194 rfl (by decide) rfl (by decide) ?_
                rw [hE.1]
                refine g_icmp_ge (tgt := 178) dX10_digest_153 (by decide) (fun c153 => ?_) (fun c153 => ?_)
                · skip
                  rw [show dgE (evO P ds) (dg4 P ds rw tx sh) ((evO P ds).1 - (evO P ds).2.1) = dg5 P ds rw tx sh from rfl]
                  refine g_iconst (v := 0) dX10_digest_178 (by decide) ?_
                  refine g_istore_n dX10_digest_179 (by decide) ?_
                  show Go _ _ _ _ _ _ [_, _, _, _, _] _ _ _
                  refine go_ix 3 (fun k => Go X (d + 5) 66 M_X10_digest 66 180 [.ref 0, .long (dgG sh (dg5 P ds rw tx sh) k), .null, .int (nI k), .null] [] (I, J, rf0) (RJ (fun y9 m => ∃ I', m = (I', J, rf0) ∧ FrC I I' ∧ y9 = S_digest P ds rw tx sh ∧ AbsC rw tx P ds sh tl ch fn I' J))) (fun k hk kk => ?_) ?_
                  · skip
                    refine g_iload_n dX10_digest_180 rfl ?_
                    refine g_iconst (v := 3) dX10_digest_181 (by decide) ?_
                    refine g_icmp_ge (tgt := 210) dX10_digest_182 (by decide) (fun c182 => ?_) (fun c182 => ?_)
                    · exact absurd (nI_lt hk (by omega)) (Int32.not_lt.mpr c182)
                    · skip
                      refine g_ldc2 dX10_digest_185 tb_974 ?_
                      refine g_lload_n dX10_digest_188 rfl ?_
                      refine g_lmul dX10_digest_189 ?_
                      refine g_aload_n dX10_digest_190 rfl ?_
                      refine t_getR dX10_digest_191 fl_X10_51 rfl (by decide) rfl (by decide) rfl ?_
                      refine t_getR dX10_digest_194 fl_X10_161 rfl (by decide) rfl (by decide) rfl ?_
                      refine g_iload_n dX10_digest_197 rfl ?_
                      refine g_callVi dX10_digest_198 ln_X10_137 ⟨_, rfl⟩ rfl (by decide) ⟨_, _, rfl⟩ rfl (Nat.le_of_ble_eq_true rfl) (Nat.le_of_ble_eq_true rfl) (ct_of sz_shelf) rfl (fun r198 m198 h198 => ?_)
                      obtain ⟨rfl, rfl⟩ := h198
                      rw [ofV_nI (by decide) hk, (hA.2.2.2.2.1 k hk).1]
                      refine g_i2l dX10_digest_201 ?_
                      refine g_ladd dX10_digest_202 ?_
                      refine g_lstore_n dX10_digest_203 (by decide) ?_
                      show Go _ _ _ _ _ _ [_, _, _, _, _] _ _ _
                      refine g_iinc dX10_digest_204 rfl (by decide) ?_
                      show Go _ _ _ _ _ _ [_, _, _, _, _] _ _ _
                      refine g_goto (tgt := 180) dX10_digest_207 (by decide) ?_
                      rw [dgG_s] at kk
                      rw [nI_inc]
                      exact kk
                  · skip
                    refine g_iload_n dX10_digest_180 rfl ?_
                    refine g_iconst (v := 3) dX10_digest_181 (by decide) ?_
                    refine g_icmp_ge (tgt := 210) dX10_digest_182 (by decide) (fun c182 => ?_) (fun c182 => ?_)
                    · skip
                      rw [show dgG sh (dg5 P ds rw tx sh) 3 = dg6 P ds rw tx sh from rfl]
                      refine g_aload_n dX10_digest_210 rfl ?_
                      refine t_getR dX10_digest_211 fl_X10_19 rfl (by decide) rfl (by decide) rfl ?_
                      refine g_aload_n dX10_digest_214 rfl ?_
                      refine t_getR dX10_digest_215 fl_X10_10 rfl (by decide) rfl (by decide) rfl ?_
                      refine g_lload_n dX10_digest_218 rfl ?_
                      refine g_callVl dX10_digest_219 ln_X10_355 rfl rfl (by decide) ⟨_, _, rfl⟩ rfl (Nat.le_of_ble_eq_true rfl) (Nat.le_of_ble_eq_true rfl) (ct_dig_R hA.1 hO.1) rfl (fun r219 m219 h219 => ?_)
                      obtain ⟨rfl, rfl⟩ := h219
                      refine g_callVl dX10_digest_222 ln_X10_359 rfl rfl (by decide) ⟨_, _, rfl⟩ rfl (Nat.le_of_ble_eq_true rfl) (Nat.le_of_ble_eq_true rfl) (ct_dig_T hA.2.1 hO.2.1) rfl (fun r222 m222 h222 => ?_)
                      obtain ⟨rfl, rfl⟩ := h222
                      refine g_lret dX10_digest_225 rfl ?_
                      exact ⟨_, rfl, FrC.rf, rfl, hA⟩
                    · exact absurd (by decide) c182
                · exact absurd (nI_le (show (evO P ds).1 ≤ (evO P ds).2.1 + ((evO P ds).1 - (evO P ds).2.1) by omega) (by omega)) c153
            · exact absurd (Int32.le_refl _) c108
        · exact absurd (Int32.le_refl _) c56
    · exact absurd (by decide) c9
end
