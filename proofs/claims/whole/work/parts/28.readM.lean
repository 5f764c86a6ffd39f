section
variable {X : Nat × (Nat → Int32)} {d : Nat} {I : Nat → Nat → Int32} {J : Nat → Nat → Int64}
/-! ===== promises 10, 11 ===== -/
def S_fault (tx : Tab) (fn : Fnd) (t : Int32) : Int32 × Fnd := match lookR 4 tx t with
  | none => (-1, fn)
  | some (_, none) => (-3, fndS 1 fn)
  | some (j, some c) => (match rdAll (tx.2 j) c with
    | .inl i => nI i
    | .inr _ => -9, fn)
def S_piece (tx : Tab) (P : Pce) (ds : List Deed) (sh : Shf) (fn : Fnd) (t : Int32) : Int32 × Pce × List Deed × Shf × Fnd := match lookR 4 tx t with
  | none => (-1, P, ds, sh, fn)
  | some (_, none) => (-3, P, ds, sh, fndS 1 fn)
  | some (j, some c) => match rdAll (tx.2 j) c with
    | .inl _ => (-4, P, ds, sh, fn)
    | .inr P' => (nI P'.2.1, P', [], fun _ => none, fn)
def prdOK (s : Prd) : Prop := s.1 ≤ 14 ∧ (∀ x, s.2.2.1 x < 6) ∧ ∀ x p, s.2.2.2 x p < 10
theorem rdLoop_ok {f : Nat → Int32} {sz np : Nat} : ∀ (n : Nat) (s s' : Prd), prdOK s → rdLoop f sz np n s = .inr s' → prdOK s'
  | 0, s, s', h, e => by cases e; exact h
  | n + 1, s, s', h, e => by
    by_cases hl : s.2.1 < sz
    · cases hp : plB f sz np s.1 s.2.1 with
      | inl j => rw [rd_bad hl hp] at e; cases e
      | inr k =>
        rw [rd_ok hl hp] at e
        refine rdLoop_ok n _ s' ?_ e
        have hk : k < 6 ∧ s.1 ≠ 14 := by
          unfold plB at hp
          cases hd : kdM (f s.2.1) with
          | none => rw [hd] at hp; cases hp
          | some k2 =>
            rw [hd] at hp
            by_cases e14 : s.1 = 14
            · rw [e14] at hp; cases hp
            · dsimp only at hp
              rw [if_neg e14] at hp
              cases hf : fstN (fun p => !nxB f sz (s.2.1 + 1 + p) 48 57) np with
              | some p => rw [hf] at hp; cases hp
              | none => rw [hf] at hp; cases hp; exact ⟨kdM_lt hd, e14⟩
        have h1 := h.1
        have hk2 := hk.2
        refine ⟨by show s.1 + 1 ≤ 14; omega, fun x => ?_, fun x p => ?_⟩
        · show upR s.2.2.1 s.1 k x < 6
          by_cases e2 : x = s.1
          · rw [e2, upR_s]; exact hk.1
          · rw [upR_n e2]; exact h.2.1 x
        · show upR s.2.2.2 s.1 (fun p => dg (f (s.2.1 + 1 + p))) x p < 10
          by_cases e2 : x = s.1
          · rw [e2, upR_s]; exact Nat.mod_lt _ (by decide)
          · rw [upR_n e2]; exact h.2.2 x p
    · rw [rd_end hl] at e; cases e; exact h
theorem rdAll_ok {f : Nat → Int32} {sz : Nat} {P : Pce} (h : rdAll f sz = .inr P) : PcOK P := by
  unfold rdAll at h
  cases h1 : nxB f sz (skipF f sz 0) 113 113 with
  | false => rw [h1] at h; cases h
  | true =>
    rw [h1] at h
    cases h2 : nxB f sz (skipF f sz 0 + 1) 50 52 with
    | false => rw [h2] at h; cases h
    | true =>
      rw [h2] at h
      have hq := nx_t h2
      have hd := dg_24 hq.2.1 hq.2.2
      have h' : rdFin (dg (f (skipF f sz 0 + 1))) (rdLoop f sz (dg (f (skipF f sz 0 + 1))) 15 (0, skipF f sz (skipF f sz 0 + 1 + 1), fun _ => 0, fun _ _ => 0)) = .inr P := h
      cases hl : rdLoop f sz (dg (f (skipF f sz 0 + 1))) 15 (0, skipF f sz (skipF f sz 0 + 1 + 1), fun _ => 0, fun _ _ => 0) with
      | inl j => rw [hl] at h'; cases h'
      | inr s =>
        have ho := rdLoop_ok 15 _ s ⟨by show (0 : Nat) ≤ 14; decide, fun _ => by show (0 : Nat) < 6; decide, fun _ _ => by show (0 : Nat) < 10; decide⟩ hl
        rw [hl] at h'
        by_cases e : s.1 = 0
        · rw [show rdFin (dg (f (skipF f sz 0 + 1))) (.inr s) = .inl s.2.1 from if_pos e] at h'; cases h'
        · rw [show rdFin (dg (f (skipF f sz 0 + 1))) (.inr s) = .inr (dg (f (skipF f sz 0 + 1)), s.1, s.2.2.1, s.2.2.2) from if_neg e] at h'
          cases h'
          exact ⟨hd.2.1, ho.1, Or.inr hd.1, ho.2.1, ho.2.2⟩
theorem AbsC.upPc {rw tx : Tab} {P : Pce} {ds : List Deed} {sh : Shf} {tl : Int32} {ch : Int64 × Int64} {fn : Fnd} {P2 : Pce} {I' : Nat → Nat → Int32} (h : AbsC rw tx P ds sh tl ch fn I J) (hf : Fr [19, 20, 21, 22, 23, 24, 25, 26, 28, 31] I I') (h1 : PcC P2 I') (h2 : EvC P2 [] I') (h3 : ShC (fun _ => none) I') : AbsC rw tx P2 [] (fun _ => none) tl ch fn I' J :=
  ⟨h.1.keep (hf 3 (by decide)) (fun r hr => hf (5 + r) (by simp; omega)), h.2.1.keep (hf 13 (by decide)) (fun r hr => hf (15 + r) (by simp; omega)), h1, h2, h3, by rw [hf 0 (by decide)]; exact h.2.2.2.2.2.1, h.2.2.2.2.2.2.1, by rw [hf 0 (by decide)]; exact h.2.2.2.2.2.2.2.1, fun j hj => by rw [hf 47 (by decide)]; exact h.2.2.2.2.2.2.2.2 j hj⟩
theorem AbsM.upPc {rw tx : Tab} {P : Pce} {ds : List Deed} {sh : Shf} {tl : Int32} {ch : Int64 × Int64} {fn : Fnd} {P2 : Pce} {I' : Nat → Nat → Int32} (h : AbsM rw tx P ds sh tl ch fn I J) (hf : Fr [48, 54, 55, 56, 57, 58, 60, 61, 63] I I') (h0 : ∀ j, 18 ≤ j → I' 48 j = I 48 j) (h1 : PcM P2 I') (h2 : EvM P2 [] I') (h3 : ShM (fun _ => none) I') : AbsM rw tx P2 [] (fun _ => none) tl ch fn I' J :=
  ⟨h.1.keep (hf 49 (by decide)) (fun _ _ => hf 50 (by decide)), h.2.1.keep (hf 51 (by decide)) (fun _ _ => hf 52 (by decide)), h1, h2, h3, by rw [h0 20 (by decide)]; exact h.2.2.2.2.2.1, h.2.2.2.2.2.2.1, by rw [h0 23 (by decide)]; exact h.2.2.2.2.2.2.2.1, fun j hj => by rw [hf 62 (by decide)]; exact h.2.2.2.2.2.2.2.2 j hj⟩
theorem ct_take {P : Pce} (hR : PcV 19 3 4 20 21 P I) (hO : PcOK P) : Ct X (d + 1) 66 M_X3_take 66 [.ref 22, .ref 19] (I, J, rf0) (RV (fun m => ∃ I', m = (I', J, rf0) ∧ Fr [22, 23, 24] I I' ∧ PcC P I')) := by
  have h14 := hO.2.1
  have h4 := hO.1
  show Go _ _ _ _ _ _ [_, _] _ _ _
  refine g_aload_n dX3_take_0 rfl ?_
  refine g_aload_n dX3_take_1 rfl ?_
  refine t_getI dX3_take_2 fl_X3_18 rfl (by decide) rfl (by decide) ?_
  refine t_putI dX3_take_5 fl_X3_24 rfl (by decide) rfl (by decide) ?_
  refine g_aload_n dX3_take_8 rfl ?_
  refine g_aload_n dX3_take_9 rfl ?_
  refine t_getI dX3_take_10 fl_X3_25 rfl (by decide) rfl (by decide) ?_
  refine t_putI dX3_take_13 fl_X3_28 rfl (by decide) rfl (by decide) ?_
  refine g_aload_n dX3_take_16 rfl ?_
  refine t_getR dX3_take_17 fl_X3_29 rfl (by decide) rfl (by decide) rfl ?_
  refine g_iconst (v := 0) dX3_take_20 (by decide) ?_
  refine g_aload_n dX3_take_21 rfl ?_
  refine t_getR dX3_take_22 fl_X3_9 rfl (by decide) rfl (by decide) rfl ?_
  refine g_iconst (v := 0) dX3_take_25 (by decide) ?_
  refine g_aload_n dX3_take_26 rfl ?_
  refine t_getR dX3_take_27 fl_X3_9 rfl (by decide) rfl (by decide) rfl ?_
  refine t_alen dX3_take_30 rfl (by decide) ?_
  refine t_copy dX3_take_31 ac_X3_30 rfl rfl (by decide) (by decide) (by decide) (by decide) (by decide) (by decide) (by decide) (Nat.le_of_ble_eq_true rfl) ?_
  refine g_aload_n dX3_take_34 rfl ?_
  refine t_getR dX3_take_35 fl_X3_36 rfl (by decide) rfl (by decide) rfl ?_
  refine g_iconst (v := 0) dX3_take_38 (by decide) ?_
  refine g_aload_n dX3_take_39 rfl ?_
  refine t_getR dX3_take_40 fl_X3_15 rfl (by decide) rfl (by decide) rfl ?_
  refine g_iconst (v := 0) dX3_take_43 (by decide) ?_
  refine g_aload_n dX3_take_44 rfl ?_
  refine t_getR dX3_take_45 fl_X3_15 rfl (by decide) rfl (by decide) rfl ?_
  refine t_alen dX3_take_48 rfl (by decide) ?_
  refine t_copy dX3_take_49 ac_X3_30 rfl rfl (by decide) (by decide) (by decide) (by decide) (by decide) (by decide) (by decide) (Nat.le_of_ble_eq_true rfl) ?_
  refine g_vret dX3_take_52 ?_
  rw [show (0 : Int32).toNatClampNeg = 0 by decide, show (nI 14).toNatClampNeg = 14 by decide, show (nI 56).toNatClampNeg = 56 by decide]
  refine ⟨_, rfl, (((Fr.rf.up (by decide)).up (by decide)).up (by decide)).up (by decide), hR.1, hR.2.1, fun x hx => ?_, fun x hx p hp => ?_⟩
  · rw [upR_n (by decide), upR_s, pk_cpy_in (by omega) (by omega), show 0 + (x - 0) = x by omega]
    exact hR.2.2.1 x hx
  · rw [upR_s, pk_cpy_in (by omega) (by omega), show 0 + (4 * x + p - 0) = 4 * x + p by omega]
    exact hR.2.2.2 x hx p hp
theorem pc_fault {rw tx : Tab} {P : Pce} {ds : List Deed} {sh : Shf} {tl : Int32} {ch : Int64 × Int64} {fn : Fnd} {t : Int32} (hA : AbsC rw tx P ds sh tl ch fn I J) (hO : StOK rw tx P ds sh) : Ct X (d + 5) 66 M_X10_fault 66 [.ref 0, .int t] (I, J, rf0) (RI (fun y9 m => ∃ I', m = (I', J, rf0) ∧ FrC I I' ∧ y9 = (S_fault tx fn t).1 ∧ AbsC rw tx P ds sh tl ch (S_fault tx fn t).2 I' J)) := by
  show Go _ _ _ _ _ _ [_, _, _] _ _ _
  refine g_aload_n dX10_fault_0 rfl ?_
  refine g_iload_n dX10_fault_1 rfl ?_
  refine g_callVi dX10_fault_2 ln_X10_146 ⟨_, rfl⟩ rfl (by decide) ⟨_, _, rfl⟩ rfl (Nat.le_of_ble_eq_true rfl) (Nat.le_of_ble_eq_true rfl) (ct_ref_T hA.2.1 hO.2.1) rfl (fun r2 m2 h2 => ?_)
  rcases h2 with ⟨rfl, rfl, hb⟩ | ⟨j, hj, rfl, htj, rfl, rfl⟩ | ⟨j, c, hj, rfl, htj, rfl, rfl⟩
  · skip
    refine g_istore_n dX10_fault_5 (by decide) ?_
    show Go _ _ _ _ _ _ [_, _, _] _ _ _
    refine g_iload_n dX10_fault_6 rfl ?_
    refine g_if_eq (tgt := 12) dX10_fault_7 (by decide) (fun c7 => ?_) (fun c7 => ?_)
    · exact absurd c7 (by decide)
    · skip
      refine g_iload_n dX10_fault_10 rfl ?_
      refine g_iret dX10_fault_11 (fun ty h => by cases h; rfl) ?_
      have hS : S_fault tx fn t = (-1, fn) := by unfold S_fault; rw [look_bad hb]
      exact ⟨_, rfl, FrC.rf, by rw [hS], by rw [hS]; exact hA⟩
  · skip
    refine g_istore_n dX10_fault_5 (by decide) ?_
    show Go _ _ _ _ _ _ [_, _, _] _ _ _
    refine g_iload_n dX10_fault_6 rfl ?_
    refine g_if_eq (tgt := 12) dX10_fault_7 (by decide) (fun c7 => ?_) (fun c7 => ?_)
    · exact absurd c7 (by decide)
    · skip
      refine g_iload_n dX10_fault_10 rfl ?_
      refine g_iret dX10_fault_11 (fun ty h => by cases h; rfl) ?_
      have hS : S_fault tx fn (nI j) = (-3, fndS 1 fn) := by unfold S_fault; rw [look_nI (by decide) hj, htj]
      exact ⟨_, rfl, FrC.find, by rw [hS], by rw [hS]; exact hA.find (by decide)⟩
  · skip
    have hc := hO.2.1 j hj c htj
    have hs : I 13 j = nI c := by have := (hA.2.1 j hj).1; rw [htj] at this; exact this
    have hfx : ∀ q, q < c → I (15 + j) q = tx.2 j q := fun q hq => by have := (hA.2.1 j hj).2 c htj q hq; rwa [Nat.zero_add] at this
    refine g_istore_n dX10_fault_5 (by decide) ?_
    show Go _ _ _ _ _ _ [_, _, _] _ _ _
    refine g_iload_n dX10_fault_6 rfl ?_
    refine g_if_eq (tgt := 12) dX10_fault_7 (by decide) (fun c7 => ?_) (fun c7 => ?_)
    · skip
      refine g_aload_n dX10_fault_12 rfl ?_
      refine t_getR dX10_fault_13 fl_X10_28 rfl (by decide) rfl (by decide) rfl ?_
      refine g_iload_n dX10_fault_16 rfl ?_
      refine g_callVi dX10_fault_17 ln_X10_151 ⟨_, rfl⟩ rfl (by decide) ⟨_, _, rfl⟩ rfl (Nat.le_of_ble_eq_true rfl) (Nat.le_of_ble_eq_true rfl) (ct_read (t := j) (sz := c) (f := tx.2 j) hj hc hs hfx) rfl (fun r17 m17 h17 => ?_)
      obtain ⟨I1, rfl, hf1, hrd⟩ := h17
      have hf1s : Fr scrC I I1 := hf1.mono (by decide)
      rcases hh : rdAll (tx.2 j) c with a | P2
      <;> rw [hh] at hrd
      · skip
        refine g_iret dX10_fault_20 (fun ty h => by cases h; rfl) ?_
        have hS : S_fault tx fn (nI j) = (nI a, fn) := by unfold S_fault; rw [look_nI (by decide) hj, htj]; show (match rdAll (tx.2 j) c with | .inl i => nI i | .inr _ => -9, fn) = _; rw [hh]
        exact ⟨_, rfl, FrC.of hf1 (by decide), by rw [hS]; exact hrd.1, by rw [hS]; exact hA.scr hf1s⟩
      · skip
        refine g_iret dX10_fault_20 (fun ty h => by cases h; rfl) ?_
        have hS : S_fault tx fn (nI j) = (-9, fn) := by unfold S_fault; rw [look_nI (by decide) hj, htj]; show (match rdAll (tx.2 j) c with | .inl i => nI i | .inr _ => -9, fn) = _; rw [hh]
        exact ⟨_, rfl, FrC.of hf1 (by decide), by rw [hS]; exact hrd.1, by rw [hS]; exact hA.scr hf1s⟩
    · exact absurd rfl c7
theorem pc_piece {rw tx : Tab} {P : Pce} {ds : List Deed} {sh : Shf} {tl : Int32} {ch : Int64 × Int64} {fn : Fnd} {t : Int32} (hA : AbsC rw tx P ds sh tl ch fn I J) (hO : StOK rw tx P ds sh) : Ct X (d + 5) 66 M_X10_piece 66 [.ref 0, .int t] (I, J, rf0) (RI (fun y9 m => ∃ I', m = (I', J, rf0) ∧ FrC I I' ∧ y9 = (S_piece tx P ds sh fn t).1 ∧ AbsC rw tx (S_piece tx P ds sh fn t).2.1 (S_piece tx P ds sh fn t).2.2.1 (S_piece tx P ds sh fn t).2.2.2.1 tl ch (S_piece tx P ds sh fn t).2.2.2.2 I' J)) := by
  show Go _ _ _ _ _ _ [_, _, _] _ _ _
  refine g_aload_n dX10_piece_0 rfl ?_
  refine g_iload_n dX10_piece_1 rfl ?_
  refine g_callVi dX10_piece_2 ln_X10_146 ⟨_, rfl⟩ rfl (by decide) ⟨_, _, rfl⟩ rfl (Nat.le_of_ble_eq_true rfl) (Nat.le_of_ble_eq_true rfl) (ct_ref_T hA.2.1 hO.2.1) rfl (fun r2 m2 h2 => ?_)
  rcases h2 with ⟨rfl, rfl, hb⟩ | ⟨j, hj, rfl, htj, rfl, rfl⟩ | ⟨j, c, hj, rfl, htj, rfl, rfl⟩
  · skip
    refine g_istore_n dX10_piece_5 (by decide) ?_
    show Go _ _ _ _ _ _ [_, _, _] _ _ _
    refine g_iload_n dX10_piece_6 rfl ?_
    refine g_if_eq (tgt := 12) dX10_piece_7 (by decide) (fun c7 => ?_) (fun c7 => ?_)
    · exact absurd c7 (by decide)
    · skip
      refine g_iload_n dX10_piece_10 rfl ?_
      refine g_iret dX10_piece_11 (fun ty h => by cases h; rfl) ?_
      have hS : S_piece tx P ds sh fn t = (-1, P, ds, sh, fn) := by unfold S_piece; rw [look_bad hb]
      exact ⟨_, rfl, FrC.rf, by rw [hS], by rw [hS]; exact hA⟩
  · skip
    refine g_istore_n dX10_piece_5 (by decide) ?_
    show Go _ _ _ _ _ _ [_, _, _] _ _ _
    refine g_iload_n dX10_piece_6 rfl ?_
    refine g_if_eq (tgt := 12) dX10_piece_7 (by decide) (fun c7 => ?_) (fun c7 => ?_)
    · exact absurd c7 (by decide)
    · skip
      refine g_iload_n dX10_piece_10 rfl ?_
      refine g_iret dX10_piece_11 (fun ty h => by cases h; rfl) ?_
      have hS : S_piece tx P ds sh fn (nI j) = (-3, P, ds, sh, fndS 1 fn) := by unfold S_piece; rw [look_nI (by decide) hj, htj]
      exact ⟨_, rfl, FrC.find, by rw [hS], by rw [hS]; exact hA.find (by decide)⟩
  · skip
    have hc := hO.2.1 j hj c htj
    have hs : I 13 j = nI c := by have := (hA.2.1 j hj).1; rw [htj] at this; exact this
    have hfx : ∀ q, q < c → I (15 + j) q = tx.2 j q := fun q hq => by have := (hA.2.1 j hj).2 c htj q hq; rwa [Nat.zero_add] at this
    refine g_istore_n dX10_piece_5 (by decide) ?_
    show Go _ _ _ _ _ _ [_, _, _] _ _ _
    refine g_iload_n dX10_piece_6 rfl ?_
    refine g_if_eq (tgt := 12) dX10_piece_7 (by decide) (fun c7 => ?_) (fun c7 => ?_)
    · skip
      refine g_aload_n dX10_piece_12 rfl ?_
      refine t_getR dX10_piece_13 fl_X10_28 rfl (by decide) rfl (by decide) rfl ?_
      refine g_iload_n dX10_piece_16 rfl ?_
      refine g_callVi dX10_piece_17 ln_X10_151 ⟨_, rfl⟩ rfl (by decide) ⟨_, _, rfl⟩ rfl (Nat.le_of_ble_eq_true rfl) (Nat.le_of_ble_eq_true rfl) (ct_read (t := j) (sz := c) (f := tx.2 j) hj hc hs hfx) rfl (fun r17 m17 h17 => ?_)
      obtain ⟨I1, rfl, hf1, hrd⟩ := h17
      have hf1s : Fr scrC I I1 := hf1.mono (by decide)
      rcases hh : rdAll (tx.2 j) c with a | P2
      <;> rw [hh] at hrd
      · skip
        refine g_bipush (v := -9) dX10_piece_20 (by decide) ?_
        refine g_icmp_eq (tgt := 28) dX10_piece_22 (by decide) (fun c22 => ?_) (fun c22 => ?_)
        · have e := c22
          rw [hrd.1] at e
          have h9 := hrd.2
          have e2 := congrArg Int32.toInt e
          rw [nI_toInt (by omega), show (-9 : Int32).toInt = -9 by decide] at e2
          omega
        · skip
          refine g_bipush (v := -4) dX10_piece_25 (by decide) ?_
          refine g_iret dX10_piece_27 (fun ty h => by cases h; rfl) ?_
          have hS : S_piece tx P ds sh fn (nI j) = (-4, P, ds, sh, fn) := by unfold S_piece; rw [look_nI (by decide) hj, htj]; show (match rdAll (tx.2 j) c with | .inl _ => (-4, P, ds, sh, fn) | .inr P' => (nI P'.2.1, P', [], fun _ => none, fn)) = _; rw [hh]
          exact ⟨_, rfl, FrC.of hf1 (by decide), by rw [hS], by rw [hS]; exact hA.scr hf1s⟩
      · skip
        have hok := rdAll_ok hh
        refine g_bipush (v := -9) dX10_piece_20 (by decide) ?_
        refine g_icmp_eq (tgt := 28) dX10_piece_22 (by decide) (fun c22 => ?_) (fun c22 => ?_)
        · skip
          refine g_aload_n dX10_piece_28 rfl ?_
          refine t_getR dX10_piece_29 fl_X10_35 rfl (by decide) rfl (by decide) rfl ?_
          refine g_aload_n dX10_piece_32 rfl ?_
          refine t_getR dX10_piece_33 fl_X10_28 rfl (by decide) rfl (by decide) rfl ?_
          refine g_callVv dX10_piece_36 ln_X10_154 rfl rfl (by decide) ⟨_, _, rfl⟩ rfl (Nat.le_of_ble_eq_true rfl) (Nat.le_of_ble_eq_true rfl) (ct_take hrd.2 hok) rfl (fun m36 h36 => ?_)
          obtain ⟨I2, rfl, hf2, hP2⟩ := h36
          refine g_aload_n dX10_piece_39 rfl ?_
          refine t_getR dX10_piece_40 fl_X10_44 rfl (by decide) rfl (by decide) rfl ?_
          refine g_iconst (v := 0) dX10_piece_43 (by decide) ?_
          refine g_callVv dX10_piece_44 ln_X10_158 rfl rfl (by decide) ⟨_, _, rfl⟩ rfl (Nat.le_of_ble_eq_true rfl) (Nat.le_of_ble_eq_true rfl) (ct_replay (ds := []) (n := 0) hP2 hok (fun i d' hd' => by cases hd') ⟨by decide, trivial⟩ (Nat.le_refl _)) rfl (fun m44 h44 => ?_)
          obtain ⟨I3, rfl, hf3, h34, hE3⟩ := h44
          refine g_aload_n dX10_piece_47 rfl ?_
          refine t_getR dX10_piece_48 fl_X10_51 rfl (by decide) rfl (by decide) rfl ?_
          refine t_getR dX10_piece_51 fl_X10_161 rfl (by decide) rfl (by decide) rfl ?_
          refine g_callVv dX10_piece_54 ln_X10_162 rfl rfl (by decide) ⟨_, _, rfl⟩ rfl (Nat.le_of_ble_eq_true rfl) (Nat.le_of_ble_eq_true rfl) (ct_dropAll sz_shelf) rfl (fun m54 h54 => ?_)
          obtain ⟨g, rfl, hg⟩ := h54
          refine g_aload_n dX10_piece_57 rfl ?_
          refine t_getR dX10_piece_58 fl_X10_35 rfl (by decide) rfl (by decide) rfl ?_
          refine t_getI dX10_piece_61 fl_X10_165 rfl (by decide) rfl (by decide) ?_
          refine g_iret dX10_piece_64 (fun ty h => by cases h; rfl) ?_
          have hS : S_piece tx P ds sh fn (nI j) = (nI P2.2.1, P2, [], fun _ => none, fn) := by unfold S_piece; rw [look_nI (by decide) hj, htj]; show (match rdAll (tx.2 j) c with | .inl _ => (-4, P, ds, sh, fn) | .inr P' => (nI P'.2.1, P', [], fun _ => none, fn)) = _; rw [hh]
          have hf9 : Fr [19, 20, 21, 22, 23, 24, 25, 26, 28, 31] I (upR I3 31 g) := (((hf1.mono (by decide)).trans ((hf2.mono (by decide)).trans (hf3.mono (by decide))))).up (by decide)
          have hP9 : PcC P2 (upR I3 31 g) := hP2.keep (by rw [upR_n (by decide), hf3 22 (by decide)]) (by rw [upR_n (by decide), hf3 22 (by decide)]) (by rw [upR_n (by decide), hf3 23 (by decide)]) (by rw [upR_n (by decide), hf3 24 (by decide)])
          refine ⟨_, rfl, FrC.of hf9 (by decide), by rw [hS]; exact hP9.2.1, ?_⟩
          rw [hS]
          refine hA.upPc hf9 hP9 ⟨by rw [upR_n (by decide)]; exact h34, fun i d' hd' => (by cases hd'), ?_⟩ (fun k hk => ⟨by rw [upR_s]; exact hg k hk, fun es he => by cases he⟩)
          exact ⟨by rw [upR_n (by decide)]; exact hE3.1, by rw [upR_n (by decide)]; exact hE3.2.1, hE3.2.2.1.keep (upR_n (by decide)), fun x a b => by rw [upR_n (by decide)]; exact hE3.2.2.2 x a b⟩
        · exact absurd hrd.1 c22
    · exact absurd rfl c7
def btM (f : Nat → Int32) (sz i : Nat) : Int32 := if i < sz then f i else -1
theorem inJ_nx {f : Nat → Int32} {sz i : Nat} {lo hi : Int32} {lo' hi' : Int64} (h1 : lo' = lo.toInt64) (h2 : hi' = hi.toInt64) (h0 : 0 < lo) : inJ (btM f sz i).toInt64 lo' hi' = nxB f sz i lo hi := by
  have z : (0 : Int32).toInt = 0 := by decide
  have z1 : (-1 : Int32).toInt = -1 := by decide
  unfold inJ nxB btM
  refine decide_eq_decide.mpr ?_
  rw [h1, h2, Int64.le_iff_toInt_le, Int64.le_iff_toInt_le, Int32.toInt_toInt64, Int32.toInt_toInt64, Int32.toInt_toInt64]
  rw [Int32.lt_iff_toInt_lt, z] at h0
  by_cases e : i < sz
  · rw [if_pos e, Int32.le_iff_toInt_le, Int32.le_iff_toInt_le]
    exact ⟨fun q => ⟨e, q⟩, fun q => q.2⟩
  · rw [if_neg e, z1]
    exact ⟨fun q => by omega, fun q => absurd q.1 e⟩
theorem nx_eq {f : Nat → Int32} {sz i : Nat} : nxB f sz i 113 113 = decide (btM f sz i = 113) := by
  unfold nxB btM
  refine decide_eq_decide.mpr ?_
  by_cases e : i < sz
  · rw [if_pos e]
    exact ⟨fun q => Int32.le_antisymm q.2.2 q.2.1, fun q => ⟨e, by rw [q]; decide, by rw [q]; decide⟩⟩
  · rw [if_neg e]
    exact ⟨fun q => absurd q.1 e, fun q => absurd q (by decide)⟩
def TdM (t sz : Nat) (f : Nat → Int32) (I : Nat → Nat → Int32) : Prop := I 51 t = nI sz ∧ ∀ q, q < sz → I 52 (80 * t + q) = f q
theorem TdM.keep {t sz : Nat} {f : Nat → Int32} {I' : Nat → Nat → Int32} (h : TdM t sz f I) (h1 : I' 51 = I 51) (h2 : I' 52 = I 52) : TdM t sz f I' := ⟨by rw [h1]; exact h.1, fun q hq => by rw [h2]; exact h.2 q hq⟩
theorem ct_byteAt {t sz i : Nat} {f : Nat → Int32} (hT : TdM t sz f I) (ht : t < 4) (hs : sz ≤ 80) (hi9 : i ≤ 100) : Ct X d 66 M_X11_byteAt 66 [.ref 48, .int (nI t), .int (nI i)] (I, J, rf0) (RI (fun y9 m => y9 = btM f sz i ∧ m = (I, J, rf0))) := by
  show Go _ _ _ _ _ _ [_, _, _] _ _ _
  refine g_iload_n dX11_byteAt_0 rfl ?_
  refine g_aload_n dX11_byteAt_1 rfl ?_
  refine t_getR dX11_byteAt_2 fl_X11_16 rfl (by decide) rfl (by decide) rfl ?_
  refine g_iload_n dX11_byteAt_5 rfl ?_
  refine t_iald dX11_byteAt_6 rfl (by decide) (in_nI ht (by decide)) ?_
  rw [cl_nI (by omega), hT.1]
  refine g_icmp_ge (tgt := 24) dX11_byteAt_7 (by decide) (fun c7 => ?_) (fun c7 => ?_)
  · skip
    refine g_iconst (v := -1) dX11_byteAt_24 (by decide) ?_
    refine g_iret dX11_byteAt_25 (fun ty h => by cases h; rfl) ?_
    refine ⟨?_, rfl⟩
    unfold btM
    first
      | rw [if_pos hlt]
      | rw [if_neg (by have := (nI_leI (by omega) (by omega)).mp c7; omega)]
      | fail "no way"
  · skip
    have hlt : i < sz := Nat.lt_of_not_le (fun q => c7 (nI_le q (by omega)))
    refine g_aload_n dX11_byteAt_10 rfl ?_
    refine t_getR dX11_byteAt_11 fl_X11_19 rfl (by decide) rfl (by decide) rfl ?_
    refine g_bipush (v := 80) dX11_byteAt_14 (by decide) ?_
    refine g_iload_n dX11_byteAt_16 rfl ?_
    refine g_imul dX11_byteAt_17 ?_
    refine g_iload_n dX11_byteAt_18 rfl ?_
    refine g_iadd dX11_byteAt_19 ?_
    refine t_bald dX11_byteAt_20 rfl (by decide) (by rw [ix80]; exact in_nI (by omega) (by decide)) ?_
    rw [ix80, cl_nI (by omega), hT.2 i hlt]
    refine g_goto (tgt := 25) dX11_byteAt_21 (by decide) ?_
    refine g_iret dX11_byteAt_25 (fun ty h => by cases h; rfl) ?_
    refine ⟨?_, rfl⟩
    unfold btM
    first
      | rw [if_pos hlt]
      | rw [if_neg (by have := (nI_leI (by omega) (by omega)).mp c7; omega)]
      | fail "no way"
theorem ct_blanks {t sz i : Nat} {f : Nat → Int32} (hT : TdM t sz f I) (ht : t < 4) (hs : sz ≤ 80) (hi9 : i ≤ 100) : Ct X (d + 1) 66 M_X11_blanks 66 [.ref 48, .int (nI t), .int (nI i)] (I, J, rf0) (RI (fun y9 m => y9 = nI (skipF f sz i) ∧ m = (I, J, rf0))) := by
  show Go _ _ _ _ _ _ [_, _, _, _] _ _ _
  refine g_iload_n dX11_blanks_0 rfl ?_
  refine g_istore_n dX11_blanks_1 (by decide) ?_
  show Go _ _ _ _ _ _ [_, _, _, _] _ _ _
  refine go_rec (fun n e => sz - e = n → e ≤ 100 → Go X (d + 1) 66 M_X11_blanks 66 2 [.ref 48, .int (nI t), .int (nI i), .int (nI e)] [] (I, J, rf0) (RI (fun y9 m => y9 = nI (skB f n e) ∧ m = (I, J, rf0)))) (fun n kk e hn h9 => ?_) (fun e hn h9 => ?_) (sz - i) i rfl hi9
  · skip
    refine g_aload_n dX11_blanks_2 rfl ?_
    refine g_iload_n dX11_blanks_3 rfl ?_
    refine g_iload_n dX11_blanks_4 rfl ?_
    refine g_callVi dX11_blanks_5 ln_X11_90 ⟨_, rfl⟩ rfl (by decide) ⟨_, _, rfl⟩ rfl (Nat.le_of_ble_eq_true rfl) (Nat.le_of_ble_eq_true rfl) (ct_byteAt (i := e) hT ht hs h9) rfl (fun r5 m5 h5 => ?_)
    obtain ⟨rfl, rfl⟩ := h5
    refine g_bipush (v := 32) dX11_blanks_8 (by decide) ?_
    refine g_icmp_ne (tgt := 19) dX11_blanks_10 (by decide) (fun c10 => ?_) (fun c10 => ?_)
    · skip
      refine g_iload_n dX11_blanks_19 rfl ?_
      refine g_iret dX11_blanks_20 (fun ty h => by cases h; rfl) ?_
      first
        | (have c9 := c10
           unfold btM at c9
           rw [if_pos (show e < sz by omega)] at c9
           exact ⟨by rw [show skB f (n + 1) e = e from if_neg c9], rfl⟩)
        | exact ⟨rfl, rfl⟩
        | fail "no way"
    · skip
      refine g_iinc dX11_blanks_13 rfl (by decide) ?_
      show Go _ _ _ _ _ _ [_, _, _, _] _ _ _
      refine g_goto (tgt := 2) dX11_blanks_16 (by decide) ?_
      rw [nI_inc]
      unfold btM at c10
      rw [if_pos (show e < sz by omega)] at c10
      rw [show skB f (n + 1) e = skB f n (e + 1) from if_pos c10]
      exact kk (e + 1) (by omega) (by omega)
  · skip
    refine g_aload_n dX11_blanks_2 rfl ?_
    refine g_iload_n dX11_blanks_3 rfl ?_
    refine g_iload_n dX11_blanks_4 rfl ?_
    refine g_callVi dX11_blanks_5 ln_X11_90 ⟨_, rfl⟩ rfl (by decide) ⟨_, _, rfl⟩ rfl (Nat.le_of_ble_eq_true rfl) (Nat.le_of_ble_eq_true rfl) (ct_byteAt (i := e) hT ht hs h9) rfl (fun r5 m5 h5 => ?_)
    obtain ⟨rfl, rfl⟩ := h5
    refine g_bipush (v := 32) dX11_blanks_8 (by decide) ?_
    refine g_icmp_ne (tgt := 19) dX11_blanks_10 (by decide) (fun c10 => ?_) (fun c10 => ?_)
    · skip
      refine g_iload_n dX11_blanks_19 rfl ?_
      refine g_iret dX11_blanks_20 (fun ty h => by cases h; rfl) ?_
      first
        | (have c9 := c10
           unfold btM at c9
           rw [if_pos (show e < sz by omega)] at c9
           exact ⟨by rw [show skB f (n + 1) e = e from if_neg c9], rfl⟩)
        | exact ⟨rfl, rfl⟩
        | fail "no way"
    · unfold btM at c10
      rw [if_neg (show ¬ e < sz by omega)] at c10
      exact absurd c10 (by decide)
theorem ct_kindOfM {v : Int32} : Ct X d 66 M_X11_kindOf 66 [.int v] (I, J, rf0) (RI (fun y9 m => y9 = fI (kdM v) ∧ m = (I, J, rf0))) := by
  show Go _ _ _ _ _ _ [_] _ _ _
  refine g_iload_n dX11_kindOf_0 rfl ?_
  refine g_bipush (v := 98) dX11_kindOf_1 (by decide) ?_
  refine g_icmp_ne (tgt := 10) dX11_kindOf_3 (by decide) (fun c3 => ?_) (fun c3 => ?_)
  · skip
    refine g_iload_n dX11_kindOf_10 rfl ?_
    refine g_bipush (v := 117) dX11_kindOf_11 (by decide) ?_
    refine g_icmp_ne (tgt := 20) dX11_kindOf_13 (by decide) (fun c13 => ?_) (fun c13 => ?_)
    · skip
      refine g_iload_n dX11_kindOf_20 rfl ?_
      refine g_bipush (v := 108) dX11_kindOf_21 (by decide) ?_
      refine g_icmp_ne (tgt := 30) dX11_kindOf_23 (by decide) (fun c23 => ?_) (fun c23 => ?_)
      · skip
        refine g_iload_n dX11_kindOf_30 rfl ?_
        refine g_bipush (v := 103) dX11_kindOf_31 (by decide) ?_
        refine g_icmp_ne (tgt := 40) dX11_kindOf_33 (by decide) (fun c33 => ?_) (fun c33 => ?_)
        · skip
          refine g_iload_n dX11_kindOf_40 rfl ?_
          refine g_bipush (v := 116) dX11_kindOf_41 (by decide) ?_
          refine g_icmp_ne (tgt := 50) dX11_kindOf_43 (by decide) (fun c43 => ?_) (fun c43 => ?_)
          · skip
            refine g_iload_n dX11_kindOf_50 rfl ?_
            refine g_bipush (v := 99) dX11_kindOf_51 (by decide) ?_
            refine g_icmp_ne (tgt := 60) dX11_kindOf_53 (by decide) (fun c53 => ?_) (fun c53 => ?_)
            · skip
              refine g_iconst (v := -1) dX11_kindOf_60 (by decide) ?_
              refine g_iret dX11_kindOf_61 (fun ty h => by cases h; rfl) ?_
              refine ⟨?_, rfl⟩
              first
                | (rw [c3]; decide)
                | (rw [c13]; decide)
                | (rw [c23]; decide)
                | (rw [c33]; decide)
                | (rw [c43]; decide)
                | (rw [c53]; decide)
                | (unfold kdM
                   rw [fstN_none (p := fun k => decide (kLet k = v)) (fun k hk => decide_eq_false (fun q => by
                     rcases (show k = 0 ∨ k = 1 ∨ k = 2 ∨ k = 3 ∨ k = 4 ∨ k = 5 by omega) with rfl | rfl | rfl | rfl | rfl | rfl
                     · exact c3 q.symm
                     · exact c13 q.symm
                     · exact c23 q.symm
                     · exact c33 q.symm
                     · exact c43 q.symm
                     · exact c53 q.symm))]
                   rfl)
                | fail "no way"
            · skip
              refine g_iconst (v := 5) dX11_kindOf_56 (by decide) ?_
              refine g_goto (tgt := 61) dX11_kindOf_57 (by decide) ?_
              refine g_iret dX11_kindOf_61 (fun ty h => by cases h; rfl) ?_
              refine ⟨?_, rfl⟩
              first
                | (rw [c3]; decide)
                | (rw [c13]; decide)
                | (rw [c23]; decide)
                | (rw [c33]; decide)
                | (rw [c43]; decide)
                | (rw [c53]; decide)
                | (unfold kdM
                   rw [fstN_none (p := fun k => decide (kLet k = v)) (fun k hk => decide_eq_false (fun q => by
                     rcases (show k = 0 ∨ k = 1 ∨ k = 2 ∨ k = 3 ∨ k = 4 ∨ k = 5 by omega) with rfl | rfl | rfl | rfl | rfl | rfl
                     · exact c3 q.symm
                     · exact c13 q.symm
                     · exact c23 q.symm
                     · exact c33 q.symm
                     · exact c43 q.symm
                     · exact c53 q.symm))]
                   rfl)
                | fail "no way"
          · skip
            refine g_iconst (v := 4) dX11_kindOf_46 (by decide) ?_
            refine g_goto (tgt := 61) dX11_kindOf_47 (by decide) ?_
            refine g_iret dX11_kindOf_61 (fun ty h => by cases h; rfl) ?_
            refine ⟨?_, rfl⟩
            first
              | (rw [c3]; decide)
              | (rw [c13]; decide)
              | (rw [c23]; decide)
              | (rw [c33]; decide)
              | (rw [c43]; decide)
              | (rw [c53]; decide)
              | (unfold kdM
                 rw [fstN_none (p := fun k => decide (kLet k = v)) (fun k hk => decide_eq_false (fun q => by
                   rcases (show k = 0 ∨ k = 1 ∨ k = 2 ∨ k = 3 ∨ k = 4 ∨ k = 5 by omega) with rfl | rfl | rfl | rfl | rfl | rfl
                   · exact c3 q.symm
                   · exact c13 q.symm
                   · exact c23 q.symm
                   · exact c33 q.symm
                   · exact c43 q.symm
                   · exact c53 q.symm))]
                 rfl)
              | fail "no way"
        · skip
          refine g_iconst (v := 3) dX11_kindOf_36 (by decide) ?_
          refine g_goto (tgt := 61) dX11_kindOf_37 (by decide) ?_
          refine g_iret dX11_kindOf_61 (fun ty h => by cases h; rfl) ?_
          refine ⟨?_, rfl⟩
          first
            | (rw [c3]; decide)
            | (rw [c13]; decide)
            | (rw [c23]; decide)
            | (rw [c33]; decide)
            | (rw [c43]; decide)
            | (rw [c53]; decide)
            | (unfold kdM
               rw [fstN_none (p := fun k => decide (kLet k = v)) (fun k hk => decide_eq_false (fun q => by
                 rcases (show k = 0 ∨ k = 1 ∨ k = 2 ∨ k = 3 ∨ k = 4 ∨ k = 5 by omega) with rfl | rfl | rfl | rfl | rfl | rfl
                 · exact c3 q.symm
                 · exact c13 q.symm
                 · exact c23 q.symm
                 · exact c33 q.symm
                 · exact c43 q.symm
                 · exact c53 q.symm))]
               rfl)
            | fail "no way"
      · skip
        refine g_iconst (v := 2) dX11_kindOf_26 (by decide) ?_
        refine g_goto (tgt := 61) dX11_kindOf_27 (by decide) ?_
        refine g_iret dX11_kindOf_61 (fun ty h => by cases h; rfl) ?_
        refine ⟨?_, rfl⟩
        first
          | (rw [c3]; decide)
          | (rw [c13]; decide)
          | (rw [c23]; decide)
          | (rw [c33]; decide)
          | (rw [c43]; decide)
          | (rw [c53]; decide)
          | (unfold kdM
             rw [fstN_none (p := fun k => decide (kLet k = v)) (fun k hk => decide_eq_false (fun q => by
               rcases (show k = 0 ∨ k = 1 ∨ k = 2 ∨ k = 3 ∨ k = 4 ∨ k = 5 by omega) with rfl | rfl | rfl | rfl | rfl | rfl
               · exact c3 q.symm
               · exact c13 q.symm
               · exact c23 q.symm
               · exact c33 q.symm
               · exact c43 q.symm
               · exact c53 q.symm))]
             rfl)
          | fail "no way"
    · skip
      refine g_iconst (v := 1) dX11_kindOf_16 (by decide) ?_
      refine g_goto (tgt := 61) dX11_kindOf_17 (by decide) ?_
      refine g_iret dX11_kindOf_61 (fun ty h => by cases h; rfl) ?_
      refine ⟨?_, rfl⟩
      first
        | (rw [c3]; decide)
        | (rw [c13]; decide)
        | (rw [c23]; decide)
        | (rw [c33]; decide)
        | (rw [c43]; decide)
        | (rw [c53]; decide)
        | (unfold kdM
           rw [fstN_none (p := fun k => decide (kLet k = v)) (fun k hk => decide_eq_false (fun q => by
             rcases (show k = 0 ∨ k = 1 ∨ k = 2 ∨ k = 3 ∨ k = 4 ∨ k = 5 by omega) with rfl | rfl | rfl | rfl | rfl | rfl
             · exact c3 q.symm
             · exact c13 q.symm
             · exact c23 q.symm
             · exact c33 q.symm
             · exact c43 q.symm
             · exact c53 q.symm))]
           rfl)
        | fail "no way"
  · skip
    refine g_iconst (v := 0) dX11_kindOf_6 (by decide) ?_
    refine g_goto (tgt := 61) dX11_kindOf_7 (by decide) ?_
    refine g_iret dX11_kindOf_61 (fun ty h => by cases h; rfl) ?_
    refine ⟨?_, rfl⟩
    first
      | (rw [c3]; decide)
      | (rw [c13]; decide)
      | (rw [c23]; decide)
      | (rw [c33]; decide)
      | (rw [c43]; decide)
      | (rw [c53]; decide)
      | (unfold kdM
         rw [fstN_none (p := fun k => decide (kLet k = v)) (fun k hk => decide_eq_false (fun q => by
           rcases (show k = 0 ∨ k = 1 ∨ k = 2 ∨ k = 3 ∨ k = 4 ∨ k = 5 by omega) with rfl | rfl | rfl | rfl | rfl | rfl
           · exact c3 q.symm
           · exact c13 q.symm
           · exact c23 q.symm
           · exact c33 q.symm
           · exact c43 q.symm
           · exact c53 q.symm))]
         rfl)
      | fail "no way"
def FrR (I I' : Nat → Nat → Int32) : Prop := Fr [48, 56, 57] I I' ∧ ∀ j, j ≠ 11 → j ≠ 12 → I' 48 j = I 48 j
theorem FrR.td {t sz : Nat} {f : Nat → Int32} {I' : Nat → Nat → Int32} (h : FrR I I') (hT : TdM t sz f I) : TdM t sz f I' := hT.keep (h.1 51 (by decide)) (h.1 52 (by decide))
theorem FrR.up {I' : Nat → Nat → Int32} {j : Nat} {v : Int32} (h : FrR I I') (hj : j = 11 ∨ j = 12) : FrR I (upR I' 48 (upd (I' 48) j v)) := ⟨h.1.up (by decide), fun i a b => by rw [upR_s, pk_un (by omega)]; exact h.2 i a b⟩
theorem FrR.upA {I' : Nat → Nat → Int32} {k : Nat} {g : Nat → Int32} (h : FrR I I') (hk : k = 56 ∨ k = 57) : FrR I (upR I' k g) := ⟨h.1.up (by rcases hk with rfl | rfl <;> decide), fun i a b => by rw [upR_n (by omega)]; exact h.2 i a b⟩
theorem ct_reads {t sz : Nat} {f : Nat → Int32} (hT : TdM t sz f I) (ht : t < 4) (hs : sz ≤ 80) : Ct X (d + 2) 66 M_X11_reads 66 [.ref 48, .int (nI t)] (I, J, rf0) (RI (fun y9 m => ∃ I', m = (I', J, rf0) ∧ FrR I I' ∧ RdR 48 11 12 56 57 (rdAll f sz) (-1) y9 I')) := by
  show Go _ _ _ _ _ _ [_, _, _, _, _] _ _ _
  refine g_aload_n dX11_reads_0 rfl ?_
  refine g_iconst (v := 0) dX11_reads_1 (by decide) ?_
  refine t_putI dX11_reads_2 fl_X11_93 rfl (by decide) rfl (by decide) ?_
  refine g_abs (fun I1 => FrR I I1 ∧ I1 48 12 = nI 0) ⟨FrR.up ⟨Fr.rf, fun _ _ _ => rfl⟩ (Or.inr rfl), by rw [upR_s, pk_us]; rfl⟩ (fun I1 h1 => ?_)
  have hi0 : skipF f sz 0 ≤ 80 := skip_le (by decide) hs
  refine g_aload_n dX11_reads_5 rfl ?_
  refine g_iload_n dX11_reads_6 rfl ?_
  refine g_iconst (v := 0) dX11_reads_7 (by decide) ?_
  refine g_callVi dX11_reads_8 ln_X11_96 ⟨_, rfl⟩ rfl (by decide) ⟨_, _, rfl⟩ rfl (Nat.le_of_ble_eq_true rfl) (Nat.le_of_ble_eq_true rfl) (ct_blanks (i := 0) (h1.1.td hT) ht hs (by decide)) rfl (fun r8 m8 h8 => ?_)
  obtain ⟨rfl, rfl⟩ := h8
  refine g_istore_n dX11_reads_11 (by decide) ?_
  show Go _ _ _ _ _ _ [_, _, _, _, _] _ _ _
  refine g_aload_n dX11_reads_12 rfl ?_
  refine g_iload_n dX11_reads_13 rfl ?_
  refine g_iload_n dX11_reads_14 rfl ?_
  refine g_callVi dX11_reads_15 ln_X11_90 ⟨_, rfl⟩ rfl (by decide) ⟨_, _, rfl⟩ rfl (Nat.le_of_ble_eq_true rfl) (Nat.le_of_ble_eq_true rfl) (ct_byteAt (i := skipF f sz 0) (h1.1.td hT) ht hs (by omega)) rfl (fun r15 m15 h15 => ?_)
  obtain ⟨rfl, rfl⟩ := h15
  refine g_bipush (v := 113) dX11_reads_18 (by decide) ?_
  refine g_icmp_eq (tgt := 25) dX11_reads_20 (by decide) (fun c20 => ?_) (fun c20 => ?_)
  · skip
    have hc20 : nxB f sz (skipF f sz 0) 113 113 = true := by rw [nx_eq]; exact decide_eq_true c20
    refine g_iinc dX11_reads_25 rfl (by decide) ?_
    show Go _ _ _ _ _ _ [_, _, _, _, _] _ _ _
    rw [nI_inc]
    refine g_aload_n dX11_reads_28 rfl ?_
    refine g_iload_n dX11_reads_29 rfl ?_
    refine g_iload_n dX11_reads_30 rfl ?_
    refine g_callVi dX11_reads_31 ln_X11_90 ⟨_, rfl⟩ rfl (by decide) ⟨_, _, rfl⟩ rfl (Nat.le_of_ble_eq_true rfl) (Nat.le_of_ble_eq_true rfl) (ct_byteAt (i := skipF f sz 0 + 1) (h1.1.td hT) ht hs (by omega)) rfl (fun r31 m31 h31 => ?_)
    obtain ⟨rfl, rfl⟩ := h31
    refine g_i2l dX11_reads_34 ?_
    refine g_ldc2 dX11_reads_35 tb_1141 ?_
    refine g_ldc2 dX11_reads_38 tb_1142 ?_
    refine g_callSi dX11_reads_41 ln_X11_76 ⟨_, rfl⟩ rfl (Nat.le_of_ble_eq_true rfl) (Nat.le_of_ble_eq_true rfl) ct_in rfl (fun r41 m41 h41 => ?_)
    obtain ⟨rfl, rfl⟩ := h41
    rw [inJ_nx (lo := 50) (hi := 52) (lo' := 50) (hi' := 52) (by decide) (by decide) (by decide)]
    refine g_if_ne (tgt := 49) dX11_reads_44 (by decide) (fun c44 => ?_) (fun c44 => ?_)
    · skip
      have hq2 := nx_t (bI_ne c44)
      have hnp := dg_24 hq2.2.1 hq2.2.2
      refine g_aload_n dX11_reads_49 rfl ?_
      refine g_aload_n dX11_reads_50 rfl ?_
      refine g_iload_n dX11_reads_51 rfl ?_
      refine g_iload_n dX11_reads_52 rfl ?_
      refine g_callVi dX11_reads_53 ln_X11_90 ⟨_, rfl⟩ rfl (by decide) ⟨_, _, rfl⟩ rfl (Nat.le_of_ble_eq_true rfl) (Nat.le_of_ble_eq_true rfl) (ct_byteAt (i := skipF f sz 0 + 1) (h1.1.td hT) ht hs (by omega)) rfl (fun r53 m53 h53 => ?_)
      obtain ⟨rfl, rfl⟩ := h53
      rw [show btM f sz (skipF f sz 0 + 1) = f (skipF f sz 0 + 1) from if_pos hq2.1]
      refine g_bipush (v := 48) dX11_reads_56 (by decide) ?_
      refine g_isub dX11_reads_58 ?_
      rw [hnp.2.2]
      refine t_putI dX11_reads_59 fl_X11_103 rfl (by decide) rfl (by decide) ?_
      obtain ⟨np, hnpe⟩ : ∃ np, np = (dg (f (skipF f sz 0 + 1))) := ⟨_, rfl⟩
      rw [← hnpe] at hnp ⊢
      refine g_abs (fun I3 => FrR I I3 ∧ I3 48 12 = nI 0 ∧ I3 48 11 = nI np) ⟨h1.1.up (Or.inl rfl), by rw [upR_s, pk_un (by decide)]; exact h1.2, by rw [upR_s, pk_us]⟩ (fun I3 h3 => ?_)
      have hS : rdAll f sz = rdFin np (rdLoop f sz np 15 (0, skipF f sz (skipF f sz 0 + 1 + 1), fun _ => 0, fun _ _ => 0)) := by
        unfold rdAll
        rw [hc20, bI_ne c44, hnpe]; rfl
      rw [hS]
      refine g_aload_n dX11_reads_62 rfl ?_
      refine g_iload_n dX11_reads_63 rfl ?_
      refine g_iload_n dX11_reads_64 rfl ?_
      refine g_iconst (v := 1) dX11_reads_65 (by decide) ?_
      refine g_iadd dX11_reads_66 ?_
      rw [nI_1]
      refine g_callVi dX11_reads_67 ln_X11_96 ⟨_, rfl⟩ rfl (by decide) ⟨_, _, rfl⟩ rfl (Nat.le_of_ble_eq_true rfl) (Nat.le_of_ble_eq_true rfl) (ct_blanks (i := skipF f sz 0 + 1 + 1) (h3.1.td hT) ht hs (by omega)) rfl (fun r67 m67 h67 => ?_)
      obtain ⟨rfl, rfl⟩ := h67
      refine g_istore_n dX11_reads_70 (by decide) ?_
      show Go _ _ _ _ _ _ [_, _, _, _, _] _ _ _
      refine go_rec (σ := (Nat → Nat → Int32) × Prd) (fun n q => ∀ I2 s, q = (I2, s) → n + s.1 = 15 → FrR I I2 ∧ s.2.1 ≤ 90 ∧ s.1 ≤ 14 ∧ PcV 48 11 12 56 57 (np, s.1, s.2.2.1, s.2.2.2) I2 → Go X (d + 2) 66 M_X11_reads 66 71 [.ref 48, .int (nI t), .int (nI s.2.1), .null, .null] [] (I2, J, rf0) (RI (fun y9 m => ∃ I', m = (I', J, rf0) ∧ FrR I I' ∧ RdR 48 11 12 56 57 (rdFin np (rdLoop f sz np n s)) (-1) y9 I'))) (fun n kk q I2 s hq9 hn h5 => ?_) (fun q I2 s hq9 hn h5 => absurd h5.2.2.1 (by omega)) 15 (_, (0, skipF f sz (skipF f sz 0 + 1 + 1), fun _ => 0, fun _ _ => 0)) _ _ rfl rfl ⟨h3.1, Nat.le_trans (skip_le (b := 82) (by omega) (by omega)) (by decide), Nat.zero_le _, h3.2.2, h3.2.1, fun x hx => absurd hx (Nat.not_lt_zero x), fun x hx => absurd hx (Nat.not_lt_zero x)⟩
      · skip
        refine g_iload_n dX11_reads_71 rfl ?_
        refine g_aload_n dX11_reads_72 rfl ?_
        refine t_getR dX11_reads_73 fl_X11_16 rfl (by decide) rfl (by decide) rfl ?_
        refine g_iload_n dX11_reads_76 rfl ?_
        refine t_iald dX11_reads_77 rfl (by decide) (in_nI ht (by decide)) ?_
        rw [cl_nI (by omega), (h5.1.td hT).1]
        refine g_icmp_ge (tgt := 203) dX11_reads_78 (by decide) (fun c78 => ?_) (fun c78 => ?_)
        · skip
          refine g_aload_n dX11_reads_203 rfl ?_
          refine t_getI dX11_reads_204 fl_X11_93 rfl (by decide) rfl (by decide) ?_
          rw [h5.2.2.2.2.1]
          refine g_if_ne (tgt := 214) dX11_reads_207 (by decide) (fun c207 => ?_) (fun c207 => ?_)
          · skip
            refine g_iconst (v := -1) dX11_reads_214 (by decide) ?_
            refine g_iret dX11_reads_215 (fun ty h => by cases h; rfl) ?_
            refine ⟨I2, rfl, h5.1, ?_⟩
            have hge : ¬ s.2.1 < sz := fun q => absurd (nI_lt q (by omega)) (Int32.not_lt.mpr c78)
            rw [rd_end hge]
            refine rd_fin (fun h0 => ⟨?_, by omega⟩) (fun h0 => ⟨?_, h5.2.2.2⟩)
            · first
                | rfl
                | exact absurd (by show nI s.1 = 0; rw [h0]; rfl) c207
                | fail "no way"
            · first
                | rfl
                | exact absurd ((nI_eq (by have := h5.2.2.1; omega) (by decide)).mp (show nI s.1 = nI 0 from c207)) h0
                | fail "no way"
          · skip
            refine g_iload_n dX11_reads_210 rfl ?_
            refine g_goto (tgt := 215) dX11_reads_211 (by decide) ?_
            refine g_iret dX11_reads_215 (fun ty h => by cases h; rfl) ?_
            refine ⟨I2, rfl, h5.1, ?_⟩
            have hge : ¬ s.2.1 < sz := fun q => absurd (nI_lt q (by omega)) (Int32.not_lt.mpr c78)
            rw [rd_end hge]
            refine rd_fin (fun h0 => ⟨?_, by omega⟩) (fun h0 => ⟨?_, h5.2.2.2⟩)
            · first
                | rfl
                | exact absurd (by show nI s.1 = 0; rw [h0]; rfl) c207
                | fail "no way"
            · first
                | rfl
                | exact absurd ((nI_eq (by have := h5.2.2.1; omega) (by decide)).mp (show nI s.1 = nI 0 from c207)) h0
                | fail "no way"
        · skip
          have hlt : s.2.1 < sz := Nat.lt_of_not_le (fun q => c78 (nI_le q (by omega)))
          refine g_aload_n dX11_reads_81 rfl ?_
          refine g_iload_n dX11_reads_82 rfl ?_
          refine g_iload_n dX11_reads_83 rfl ?_
          refine g_callVi dX11_reads_84 ln_X11_90 ⟨_, rfl⟩ rfl (by decide) ⟨_, _, rfl⟩ rfl (Nat.le_of_ble_eq_true rfl) (Nat.le_of_ble_eq_true rfl) (ct_byteAt (i := s.2.1) (h5.1.td hT) ht hs (by omega)) rfl (fun r84 m84 h84 => ?_)
          obtain ⟨rfl, rfl⟩ := h84
          rw [show btM f sz s.2.1 = f s.2.1 from if_pos hlt]
          refine g_callSi dX11_reads_87 ln_X11_106 ⟨_, rfl⟩ rfl (Nat.le_of_ble_eq_true rfl) (Nat.le_of_ble_eq_true rfl) ct_kindOfM rfl (fun r87 m87 h87 => ?_)
          obtain ⟨rfl, rfl⟩ := h87
          refine g_istore_n dX11_reads_90 (by decide) ?_
          show Go _ _ _ _ _ _ [_, _, _, _, _] _ _ _
          refine g_iload_n dX11_reads_91 rfl ?_
          refine g_if_lt (tgt := 104) dX11_reads_92 (by decide) (fun c92 => ?_) (fun c92 => ?_)
          · skip
            refine g_iload_n dX11_reads_104 rfl ?_
            refine g_iret dX11_reads_105 (fun ty h => by cases h; rfl) ?_
            refine ⟨I2, rfl, h5.1, ?_⟩
            first
              | (have hno : kdM (f s.2.1) = none := by
                   cases hh : kdM (f s.2.1) with
                   | none => rfl
                   | some q =>
                     rw [hh] at c92
                     have := kdM_lt hh
                     exact absurd (show nI q < 0 from c92) (nI_neg (by omega))
                 rw [rd_bad hlt (plB_none hno)]
                 exact ⟨rfl, by omega⟩)
              | (have e : s.1 = 14 := (nI_eq (by omega) (by decide)).mp (show nI s.1 = nI 14 from c101)
                 rw [rd_bad hlt (show plB f sz np s.1 s.2.1 = .inl s.2.1 by rw [e]; exact plB_full hk)]
                 exact ⟨rfl, by omega⟩)
              | fail "no way"
          · skip
            obtain ⟨k, hk⟩ : ∃ k, kdM (f s.2.1) = some k := by
              cases hh : kdM (f s.2.1) with
              | none => rw [hh] at c92; exact absurd (show (-1 : Int32) < 0 by decide) c92
              | some q => exact ⟨q, rfl⟩
            have hk6 := kdM_lt hk
            rw [hk]
            show Go _ _ _ _ _ _ [_, _, _, .int (nI k), _] _ _ _
            refine g_aload_n dX11_reads_95 rfl ?_
            refine t_getI dX11_reads_96 fl_X11_93 rfl (by decide) rfl (by decide) ?_
            rw [h5.2.2.2.2.1]
            refine g_bipush (v := 14) dX11_reads_99 (by decide) ?_
            refine g_icmp_ne (tgt := 106) dX11_reads_101 (by decide) (fun c101 => ?_) (fun c101 => ?_)
            · skip
              have hx : s.1 < 14 := Nat.lt_of_le_of_ne h5.2.2.1 (fun q => c101 (by show nI s.1 = 14; rw [q]; rfl))
              refine g_aload_n dX11_reads_106 rfl ?_
              refine t_getR dX11_reads_107 fl_X11_32 rfl (by decide) rfl (by decide) rfl ?_
              refine g_aload_n dX11_reads_110 rfl ?_
              refine t_getI dX11_reads_111 fl_X11_93 rfl (by decide) rfl (by decide) ?_
              rw [h5.2.2.2.2.1]
              refine g_iload_n dX11_reads_114 rfl ?_
              refine t_iast dX11_reads_115 rfl (by decide) (in_nI hx (by decide)) ?_
              rw [cl_nI (by show s.1 < 2 ^ 31; omega)]
              refine g_iconst (v := 0) dX11_reads_116 (by decide) ?_
              refine g_istore dX11_reads_117 (by decide) ?_
              show Go _ _ _ _ _ _ [_, _, _, _, _] _ _ _
              refine go_mem (fun p I3 => FrR I I3 ∧ I3 48 11 = nI np ∧ I3 48 12 = nI s.1 ∧ I3 56 = upd (I2 56) s.1 (nI k) ∧ (∀ q, q < p → nxB f sz (s.2.1 + 1 + q) 48 57 = true) ∧ (∀ q, q < p → I3 57 (4 * s.1 + q) = nI (dg (f (s.2.1 + 1 + q)))) ∧ ∀ q, q < 4 * s.1 → I3 57 q = I2 57 q) np (fun p I3 => Go X (d + 2) 66 M_X11_reads 66 119 [.ref 48, .int (nI t), .int (nI (s.2.1 + p)), .int (nI k), .int (nI p)] [] (I3, J, rf0) (RI (fun y9 m => ∃ I', m = (I', J, rf0) ∧ FrR I I' ∧ RdR 48 11 12 56 57 (rdFin np (rdLoop f sz np (n + 1) s)) (-1) y9 I'))) (fun p I3 hp h6 kk2 => ?_) (fun I3 h6 => ?_) _ ?_
              · skip
                refine g_iload dX11_reads_119 rfl ?_
                refine g_aload_n dX11_reads_121 rfl ?_
                refine t_getI dX11_reads_122 fl_X11_103 rfl (by decide) rfl (by decide) ?_
                rw [h6.2.1]
                refine g_icmp_ge (tgt := 181) dX11_reads_125 (by decide) (fun c125 => ?_) (fun c125 => ?_)
                · exact absurd (nI_lt hp (by omega)) (Int32.not_lt.mpr c125)
                · skip
                  refine g_iinc dX11_reads_128 rfl (by decide) ?_
                  show Go _ _ _ _ _ _ [_, _, _, _, _] _ _ _
                  rw [nI_inc, show s.2.1 + p + 1 = s.2.1 + 1 + p by omega]
                  refine g_aload_n dX11_reads_131 rfl ?_
                  refine g_iload_n dX11_reads_132 rfl ?_
                  refine g_iload_n dX11_reads_133 rfl ?_
                  refine g_callVi dX11_reads_134 ln_X11_90 ⟨_, rfl⟩ rfl (by decide) ⟨_, _, rfl⟩ rfl (Nat.le_of_ble_eq_true rfl) (Nat.le_of_ble_eq_true rfl) (ct_byteAt (i := s.2.1 + 1 + p) (h6.1.td hT) ht hs (by omega)) rfl (fun r134 m134 h134 => ?_)
                  obtain ⟨rfl, rfl⟩ := h134
                  refine g_i2l dX11_reads_137 ?_
                  refine g_ldc2 dX11_reads_138 tb_1146 ?_
                  refine g_ldc2 dX11_reads_141 tb_1147 ?_
                  refine g_callSi dX11_reads_144 ln_X11_76 ⟨_, rfl⟩ rfl (Nat.le_of_ble_eq_true rfl) (Nat.le_of_ble_eq_true rfl) ct_in rfl (fun r144 m144 h144 => ?_)
                  obtain ⟨rfl, rfl⟩ := h144
                  rw [inJ_nx (lo := 48) (hi := 57) (lo' := 48) (hi' := 57) (by decide) (by decide) (by decide)]
                  refine g_if_ne (tgt := 152) dX11_reads_147 (by decide) (fun c147 => ?_) (fun c147 => ?_)
                  · skip
                    have hq := nx_t (bI_ne c147)
                    refine g_aload_n dX11_reads_152 rfl ?_
                    refine t_getR dX11_reads_153 fl_X11_35 rfl (by decide) rfl (by decide) rfl ?_
                    refine g_iconst (v := 4) dX11_reads_156 (by decide) ?_
                    refine g_aload_n dX11_reads_157 rfl ?_
                    refine t_getI dX11_reads_158 fl_X11_93 rfl (by decide) rfl (by decide) ?_
                    rw [h6.2.2.1]
                    refine g_imul dX11_reads_161 ?_
                    refine g_iload dX11_reads_162 rfl ?_
                    refine g_iadd dX11_reads_164 ?_
                    rw [ix4b]
                    refine g_aload_n dX11_reads_165 rfl ?_
                    refine g_iload_n dX11_reads_166 rfl ?_
                    refine g_iload_n dX11_reads_167 rfl ?_
                    refine g_callVi dX11_reads_168 ln_X11_90 ⟨_, rfl⟩ rfl (by decide) ⟨_, _, rfl⟩ rfl (Nat.le_of_ble_eq_true rfl) (Nat.le_of_ble_eq_true rfl) (ct_byteAt (i := s.2.1 + 1 + p) (h6.1.td hT) ht hs (by omega)) rfl (fun r168 m168 h168 => ?_)
                    obtain ⟨rfl, rfl⟩ := h168
                    rw [show btM f sz (s.2.1 + 1 + p) = f (s.2.1 + 1 + p) from if_pos hq.1]
                    refine g_bipush (v := 48) dX11_reads_171 (by decide) ?_
                    refine g_isub dX11_reads_173 ?_
                    rw [dg_sub hq.2.1 hq.2.2]
                    refine t_iast dX11_reads_174 rfl (by decide) (in_nI (by omega) (by decide)) ?_
                    refine g_iinc dX11_reads_175 rfl (by decide) ?_
                    show Go _ _ _ _ _ _ [_, _, _, _, _] _ _ _
                    refine g_goto (tgt := 119) dX11_reads_178 (by decide) ?_
                    rw [nI_inc, cl_nI (by omega), show s.2.1 + 1 + p = s.2.1 + (p + 1) by omega]
                    refine kk2 _ ⟨h6.1.upA (Or.inr rfl), by rw [upR_n (by decide)]; exact h6.2.1, by rw [upR_n (by decide)]; exact h6.2.2.1, by rw [upR_n (by decide)]; exact h6.2.2.2.1, fun q hq9 => ?_, fun q hq9 => ?_, fun q hq9 => ?_⟩
                    · rcases Nat.lt_or_ge q p with q1 | q1
                      · exact h6.2.2.2.2.1 q q1
                      · rw [show q = p by omega]; exact bI_ne c147
                    · rw [upR_s]
                      rcases Nat.lt_or_ge q p with q1 | q1
                      · rw [pk_un (by omega)]; exact h6.2.2.2.2.2.1 q q1
                      · rw [show q = p by omega, pk_us, show s.2.1 + (p + 1) = s.2.1 + 1 + p by omega]
                    · rw [upR_s, pk_un (by omega)]; exact h6.2.2.2.2.2.2 q hq9
                  · skip
                    refine g_iload_n dX11_reads_150 rfl ?_
                    refine g_iret dX11_reads_151 (fun ty h => by cases h; rfl) ?_
                    refine ⟨I3, rfl, h6.1, ?_⟩
                    rw [rd_bad hlt (plB_bad hk hx hp (bI_eq c147) h6.2.2.2.2.1)]
                    exact ⟨rfl, by omega⟩
              · skip
                refine g_iload dX11_reads_119 rfl ?_
                refine g_aload_n dX11_reads_121 rfl ?_
                refine t_getI dX11_reads_122 fl_X11_103 rfl (by decide) rfl (by decide) ?_
                rw [h6.2.1]
                refine g_icmp_ge (tgt := 181) dX11_reads_125 (by decide) (fun c125 => ?_) (fun c125 => ?_)
                · have hgood := h6.2.2.2.2.1
                  refine g_aload_n dX11_reads_181 rfl ?_
                  refine g_dup dX11_reads_182 rfl ?_
                  refine t_getI dX11_reads_183 fl_X11_93 rfl (by decide) rfl (by decide) ?_
                  rw [h6.2.2.1]
                  refine g_iconst (v := 1) dX11_reads_186 (by decide) ?_
                  refine g_iadd dX11_reads_187 ?_
                  rw [nI_1]
                  refine t_putI dX11_reads_188 fl_X11_93 rfl (by decide) rfl (by decide) ?_
                  refine g_abs (fun I4 => FrR I I4 ∧ I4 48 11 = nI np ∧ I4 48 12 = nI (s.1 + 1) ∧ I4 56 = upd (I2 56) s.1 (nI k) ∧ (∀ q, q < np → I4 57 (4 * s.1 + q) = nI (dg (f (s.2.1 + 1 + q)))) ∧ ∀ q, q < 4 * s.1 → I4 57 q = I2 57 q) ⟨h6.1.up (Or.inr rfl), by rw [upR_s, pk_un (by decide)]; exact h6.2.1, by rw [upR_s, pk_us], by rw [upR_n (by decide)]; exact h6.2.2.2.1, fun q hq => by rw [upR_n (by decide)]; exact h6.2.2.2.2.2.1 q hq, fun q hq => by rw [upR_n (by decide)]; exact h6.2.2.2.2.2.2 q hq⟩ (fun I4 h7 => ?_)
                  refine g_aload_n dX11_reads_191 rfl ?_
                  refine g_iload_n dX11_reads_192 rfl ?_
                  refine g_iload_n dX11_reads_193 rfl ?_
                  refine g_iconst (v := 1) dX11_reads_194 (by decide) ?_
                  refine g_iadd dX11_reads_195 ?_
                  rw [nI_1, show s.2.1 + np + 1 = s.2.1 + 1 + np by omega]
                  refine g_callVi dX11_reads_196 ln_X11_96 ⟨_, rfl⟩ rfl (by decide) ⟨_, _, rfl⟩ rfl (Nat.le_of_ble_eq_true rfl) (Nat.le_of_ble_eq_true rfl) (ct_blanks (i := s.2.1 + 1 + np) (h7.1.td hT) ht hs (by omega)) rfl (fun r196 m196 h196 => ?_)
                  obtain ⟨rfl, rfl⟩ := h196
                  refine g_istore_n dX11_reads_199 (by decide) ?_
                  show Go _ _ _ _ _ _ [_, _, _, _, _] _ _ _
                  refine g_goto (tgt := 71) dX11_reads_200 (by decide) ?_
                  refine g_forget 3 ?_
                  refine g_forget 4 ?_
                  show Go _ _ _ _ _ _ [_, _, _, _, _] _ _ _
                  rw [rd_ok hlt (plB_ok hk hx hgood)]
                  refine kk (_, rdNx f sz np k s) _ (rdNx f sz np k s) rfl (by show n + (s.1 + 1) = 15; omega) ⟨h7.1, Nat.le_trans (skip_le (b := 90) (by omega) (by omega)) (by decide), by show s.1 + 1 ≤ 14; omega, h7.2.1, h7.2.2.1, fun x hx => ?_, fun x hx p hp => ?_⟩
                  · have hx' : x < s.1 + 1 := hx
                    show I4 56 x = nI (upR s.2.2.1 s.1 k x)
                    rw [h7.2.2.2.1]
                    by_cases e : x = s.1
                    · rw [e, pk_us, upR_s]
                    · rw [pk_un e, upR_n e]; exact h5.2.2.2.2.2.1 x (show x < s.1 by omega)
                  · have hx' : x < s.1 + 1 := hx
                    have hp' : p < np := hp
                    show I4 57 (4 * x + p) = nI (upR s.2.2.2 s.1 (fun p => dg (f (s.2.1 + 1 + p))) x p)
                    by_cases e : x = s.1
                    · rw [e, upR_s, h7.2.2.2.2.1 p hp']
                    · rw [upR_n e, h7.2.2.2.2.2 _ (by omega)]; exact h5.2.2.2.2.2.2 x (show x < s.1 by omega) p hp' 
                · exact absurd (Int32.le_refl _) c125
              · exact ⟨h5.1.upA (Or.inl rfl), by rw [upR_n (by decide)]; exact h5.2.2.2.1, by rw [upR_n (by decide)]; exact h5.2.2.2.2.1, by rw [upR_s], fun q hq => absurd hq (Nat.not_lt_zero q), fun q hq => absurd hq (Nat.not_lt_zero q), fun q hq => by rw [upR_n (by decide)]⟩
            · skip
              refine g_iload_n dX11_reads_104 rfl ?_
              refine g_iret dX11_reads_105 (fun ty h => by cases h; rfl) ?_
              refine ⟨I2, rfl, h5.1, ?_⟩
              first
                | (have hno : kdM (f s.2.1) = none := by
                     cases hh : kdM (f s.2.1) with
                     | none => rfl
                     | some q =>
                       rw [hh] at c92
                       have := kdM_lt hh
                       exact absurd (show nI q < 0 from c92) (nI_neg (by omega))
                   rw [rd_bad hlt (plB_none hno)]
                   exact ⟨rfl, by omega⟩)
                | (have e : s.1 = 14 := (nI_eq (by omega) (by decide)).mp (show nI s.1 = nI 14 from c101)
                   rw [rd_bad hlt (show plB f sz np s.1 s.2.1 = .inl s.2.1 by rw [e]; exact plB_full hk)]
                   exact ⟨rfl, by omega⟩)
                | fail "no way"
    · skip
      refine g_iload_n dX11_reads_47 rfl ?_
      refine g_iret dX11_reads_48 (fun ty h => by cases h; rfl) ?_
      refine ⟨_, rfl, h1.1, ?_⟩
      rw [show rdAll f sz = .inl (skipF f sz 0 + 1) by unfold rdAll; rw [hc20, bI_eq c44]; rfl]
      exact ⟨rfl, by omega⟩
  · skip
    refine g_iload_n dX11_reads_23 rfl ?_
    refine g_iret dX11_reads_24 (fun ty h => by cases h; rfl) ?_
    refine ⟨_, rfl, h1.1, ?_⟩
    rw [show rdAll f sz = .inl (skipF f sz 0) by unfold rdAll; rw [nx_eq, decide_eq_false c20]; rfl]
    exact ⟨rfl, by omega⟩
theorem pm_fault {rw tx : Tab} {P : Pce} {ds : List Deed} {sh : Shf} {tl : Int32} {ch : Int64 × Int64} {fn : Fnd} {t : Int32} (hA : AbsM rw tx P ds sh tl ch fn I J) (hO : StOK rw tx P ds sh) : Ct X (d + 3) 66 M_X11_fault 66 [.ref 48, .int t] (I, J, rf0) (RI (fun y9 m => ∃ I', m = (I', J, rf0) ∧ FrM I I' ∧ y9 = (S_fault tx fn t).1 ∧ AbsM rw tx P ds sh tl ch (S_fault tx fn t).2 I' J)) := by
  show Go _ _ _ _ _ _ [_, _, _] _ _ _
  refine g_iload_n dX11_fault_0 rfl ?_
  refine g_i2l dX11_fault_1 ?_
  refine g_lconst (v := 0) dX11_fault_2 (by decide) ?_
  refine g_ldc2 dX11_fault_3 tb_1120 ?_
  refine g_callSi dX11_fault_6 ln_X11_76 ⟨_, rfl⟩ rfl (Nat.le_of_ble_eq_true rfl) (Nat.le_of_ble_eq_true rfl) ct_in rfl (fun r6 m6 h6 => ?_)
  obtain ⟨rfl, rfl⟩ := h6
  rw [inJ_4]
  refine g_if_ne (tgt := 14) dX11_fault_9 (by decide) (fun c9 => ?_) (fun c9 => ?_)
  · skip
    have q1 := bI_ne c9
    obtain ⟨j, hj, rfl⟩ := inR_ix (by decide) q1
    refine g_aload_n dX11_fault_14 rfl ?_
    refine t_getR dX11_fault_15 fl_X11_16 rfl (by decide) rfl (by decide) rfl ?_
    refine g_iload_n dX11_fault_18 rfl ?_
    refine t_iald dX11_fault_19 rfl (by decide) (in_nI hj (by decide)) ?_
    rw [cl_nI (by omega), (hA.2.1 j hj).1]
    refine g_if_ge (tgt := 29) dX11_fault_20 (by decide) (fun c20 => ?_) (fun c20 => ?_)
    · skip
      obtain ⟨c, htj⟩ : ∃ c, tx.1 j = some c := by
        cases hh : tx.1 j with
        | none => rw [hh] at c20; exact absurd c20 (by decide)
        | some q => exact ⟨q, rfl⟩
      have hc := hO.2.1 j hj c htj
      have hTd : TdM j c (tx.2 j) I := ⟨by have := (hA.2.1 j hj).1; rw [htj] at this; exact this, fun q hq => (hA.2.1 j hj).2 c htj q hq⟩
      refine g_aload_n dX11_fault_29 rfl ?_
      refine g_iload_n dX11_fault_30 rfl ?_
      refine g_callVi dX11_fault_31 ln_X11_113 ⟨_, rfl⟩ rfl (by decide) ⟨_, _, rfl⟩ rfl (Nat.le_of_ble_eq_true rfl) (Nat.le_of_ble_eq_true rfl) (ct_reads (t := j) (sz := c) (f := tx.2 j) hTd hj hc) rfl (fun r31 m31 h31 => ?_)
      obtain ⟨I1, rfl, hf1, hrd⟩ := h31
      rcases hh : rdAll (tx.2 j) c with a | P2
      <;> rw [hh] at hrd
      · skip
        refine g_istore_n dX11_fault_34 (by decide) ?_
        show Go _ _ _ _ _ _ [_, _, _] _ _ _
        refine g_iload_n dX11_fault_35 rfl ?_
        refine g_if_ge (tgt := 44) dX11_fault_36 (by decide) (fun c36 => ?_) (fun c36 => ?_)
        · skip
          refine g_iload_n dX11_fault_44 rfl ?_
          refine g_iret dX11_fault_45 (fun ty h => by cases h; rfl) ?_
          have hA1 : AbsM rw tx P ds sh tl ch fn I1 J := hA.up0 (hf1.1.mono (by decide)) (fun j a b _ _ => hf1.2 j a b) (by rw [hf1.2 20 (by decide) (by decide)]; exact hA.2.2.2.2.2.1) ⟨by rw [hf1.2 23 (by decide) (by decide)]; exact hA.2.2.2.2.2.2.2.1, fun j hj => by rw [hf1.1 62 (by decide)]; exact hA.2.2.2.2.2.2.2.2 j hj⟩
          have hS : S_fault tx fn (nI j) = (nI a, fn) := by unfold S_fault; rw [look_nI (by decide) hj, htj]; show (match rdAll (tx.2 j) c with | .inl i => nI i | .inr _ => -9, fn) = _; rw [hh]
          exact ⟨_, rfl, FrM.of hf1.1 (by decide), by rw [hS]; exact hrd.1, by rw [hS]; exact hA1⟩
        · rw [hrd.1] at c36
          have h9 := hrd.2
          exact absurd (nI_pos' (by omega)) c36
      · skip
        refine g_istore_n dX11_fault_34 (by decide) ?_
        show Go _ _ _ _ _ _ [_, _, _] _ _ _
        refine g_iload_n dX11_fault_35 rfl ?_
        refine g_if_ge (tgt := 44) dX11_fault_36 (by decide) (fun c36 => ?_) (fun c36 => ?_)
        · rw [hrd.1] at c36
          exact absurd c36 (by decide)
        · skip
          refine g_bipush (v := -9) dX11_fault_39 (by decide) ?_
          refine g_goto (tgt := 45) dX11_fault_41 (by decide) ?_
          refine g_iret dX11_fault_45 (fun ty h => by cases h; rfl) ?_
          have hA1 : AbsM rw tx P ds sh tl ch fn I1 J := hA.up0 (hf1.1.mono (by decide)) (fun j a b _ _ => hf1.2 j a b) (by rw [hf1.2 20 (by decide) (by decide)]; exact hA.2.2.2.2.2.1) ⟨by rw [hf1.2 23 (by decide) (by decide)]; exact hA.2.2.2.2.2.2.2.1, fun j hj => by rw [hf1.1 62 (by decide)]; exact hA.2.2.2.2.2.2.2.2 j hj⟩
          have hS : S_fault tx fn (nI j) = (-9, fn) := by unfold S_fault; rw [look_nI (by decide) hj, htj]; show (match rdAll (tx.2 j) c with | .inl i => nI i | .inr _ => -9, fn) = _; rw [hh]
          exact ⟨_, rfl, FrM.of hf1.1 (by decide), by rw [hS], by rw [hS]; exact hA1⟩
    · skip
      refine g_aload_n dX11_fault_23 rfl ?_
      refine g_iconst (v := 1) dX11_fault_24 (by decide) ?_
      refine g_callVi dX11_fault_25 ln_X11_80 ⟨_, rfl⟩ rfl (by decide) ⟨_, _, rfl⟩ rfl (Nat.le_of_ble_eq_true rfl) (Nat.le_of_ble_eq_true rfl) (ct_finds (w := 1) (by decide)) rfl (fun r25 m25 h25 => ?_)
      obtain ⟨rfl, rfl⟩ := h25
      refine g_iret dX11_fault_28 (fun ty h => by cases h; rfl) ?_
      have htj : tx.1 j = none := by
        cases hh : tx.1 j with
        | none => rfl
        | some q =>
          rw [hh] at c20
          have := hO.2.1 j hj q hh
          exact absurd (nI_pos' (by omega)) (show ¬ 0 ≤ nI q from c20)
      have hS : S_fault tx fn (nI j) = (-3, fndS 1 fn) := by unfold S_fault; rw [look_nI (by decide) hj, htj]
      exact ⟨_, rfl, FrM.find, by rw [hS], by rw [hS]; exact hA.find (by decide)⟩
  · skip
    refine g_iconst (v := -1) dX11_fault_12 (by decide) ?_
    refine g_iret dX11_fault_13 (fun ty h => by cases h; rfl) ?_
    have hS : S_fault tx fn t = (-1, fn) := by unfold S_fault; rw [look_bad (bI_eq c9)]
    exact ⟨_, rfl, FrM.rf, by rw [hS], by rw [hS]; exact hA⟩
theorem pm_piece {rw tx : Tab} {P : Pce} {ds : List Deed} {sh : Shf} {tl : Int32} {ch : Int64 × Int64} {fn : Fnd} {t : Int32} (hA : AbsM rw tx P ds sh tl ch fn I J) (hO : StOK rw tx P ds sh) : Ct X (d + 7) 66 M_X11_piece 66 [.ref 48, .int t] (I, J, rf0) (RI (fun y9 m => ∃ I', m = (I', J, rf0) ∧ FrM I I' ∧ y9 = (S_piece tx P ds sh fn t).1 ∧ AbsM rw tx (S_piece tx P ds sh fn t).2.1 (S_piece tx P ds sh fn t).2.2.1 (S_piece tx P ds sh fn t).2.2.2.1 tl ch (S_piece tx P ds sh fn t).2.2.2.2 I' J)) := by
  show Go _ _ _ _ _ _ [_, _, _] _ _ _
  refine g_iload_n dX11_piece_0 rfl ?_
  refine g_i2l dX11_piece_1 ?_
  refine g_lconst (v := 0) dX11_piece_2 (by decide) ?_
  refine g_ldc2 dX11_piece_3 tb_1120 ?_
  refine g_callSi dX11_piece_6 ln_X11_76 ⟨_, rfl⟩ rfl (Nat.le_of_ble_eq_true rfl) (Nat.le_of_ble_eq_true rfl) ct_in rfl (fun r6 m6 h6 => ?_)
  obtain ⟨rfl, rfl⟩ := h6
  rw [inJ_4]
  refine g_if_ne (tgt := 14) dX11_piece_9 (by decide) (fun c9 => ?_) (fun c9 => ?_)
  · skip
    have q1 := bI_ne c9
    obtain ⟨j, hj, rfl⟩ := inR_ix (by decide) q1
    refine g_aload_n dX11_piece_14 rfl ?_
    refine t_getR dX11_piece_15 fl_X11_16 rfl (by decide) rfl (by decide) rfl ?_
    refine g_iload_n dX11_piece_18 rfl ?_
    refine t_iald dX11_piece_19 rfl (by decide) (in_nI hj (by decide)) ?_
    rw [cl_nI (by omega), (hA.2.1 j hj).1]
    refine g_if_ge (tgt := 29) dX11_piece_20 (by decide) (fun c20 => ?_) (fun c20 => ?_)
    · skip
      obtain ⟨c, htj⟩ : ∃ c, tx.1 j = some c := by
        cases hh : tx.1 j with
        | none => rw [hh] at c20; exact absurd c20 (by decide)
        | some q => exact ⟨q, rfl⟩
      have hc := hO.2.1 j hj c htj
      have hTd : TdM j c (tx.2 j) I := ⟨by have := (hA.2.1 j hj).1; rw [htj] at this; exact this, fun q hq => (hA.2.1 j hj).2 c htj q hq⟩
      refine g_aload_n dX11_piece_29 rfl ?_
      refine g_iload_n dX11_piece_30 rfl ?_
      refine g_callVi dX11_piece_31 ln_X11_113 ⟨_, rfl⟩ rfl (by decide) ⟨_, _, rfl⟩ rfl (Nat.le_of_ble_eq_true rfl) (Nat.le_of_ble_eq_true rfl) (ct_reads (t := j) (sz := c) (f := tx.2 j) hTd hj hc) rfl (fun r31 m31 h31 => ?_)
      obtain ⟨I1, rfl, hf1, hrd⟩ := h31
      rcases hh : rdAll (tx.2 j) c with a | P2
      <;> rw [hh] at hrd
      · skip
        refine g_if_lt (tgt := 40) dX11_piece_34 (by decide) (fun c34 => ?_) (fun c34 => ?_)
        · have e := c34
          rw [hrd.1] at e
          have h9 := hrd.2
          exact absurd e (nI_neg (by omega))
        · skip
          refine g_bipush (v := -4) dX11_piece_37 (by decide) ?_
          refine g_iret dX11_piece_39 (fun ty h => by cases h; rfl) ?_
          have hA1 : AbsM rw tx P ds sh tl ch fn I1 J := hA.up0 (hf1.1.mono (by decide)) (fun j a b _ _ => hf1.2 j a b) (by rw [hf1.2 20 (by decide) (by decide)]; exact hA.2.2.2.2.2.1) ⟨by rw [hf1.2 23 (by decide) (by decide)]; exact hA.2.2.2.2.2.2.2.1, fun j hj => by rw [hf1.1 62 (by decide)]; exact hA.2.2.2.2.2.2.2.2 j hj⟩
          have hS : S_piece tx P ds sh fn (nI j) = (-4, P, ds, sh, fn) := by unfold S_piece; rw [look_nI (by decide) hj, htj]; show (match rdAll (tx.2 j) c with | .inl _ => (-4, P, ds, sh, fn) | .inr P' => (nI P'.2.1, P', [], fun _ => none, fn)) = _; rw [hh]
          exact ⟨_, rfl, FrM.of hf1.1 (by decide), by rw [hS], by rw [hS]; exact hA1⟩
      · skip
        have hok := rdAll_ok hh
        have hPr := hrd.2
        have hp4 := hok.1
        have hp14 := hok.2.1
        refine g_if_lt (tgt := 40) dX11_piece_34 (by decide) (fun c34 => ?_) (fun c34 => ?_)
        · skip
          refine g_aload_n dX11_piece_40 rfl ?_
          refine g_aload_n dX11_piece_41 rfl ?_
          refine t_getI dX11_piece_42 fl_X11_103 rfl (by decide) rfl (by decide) ?_
          refine t_putI dX11_piece_45 fl_X11_116 rfl (by decide) rfl (by decide) ?_
          refine g_aload_n dX11_piece_48 rfl ?_
          refine g_aload_n dX11_piece_49 rfl ?_
          refine t_getI dX11_piece_50 fl_X11_93 rfl (by decide) rfl (by decide) ?_
          refine t_putI dX11_piece_53 fl_X11_119 rfl (by decide) rfl (by decide) ?_
          refine g_abs (fun I2 => Fr [48] I1 I2 ∧ (∀ j, j ≠ 5 → j ≠ 6 → I2 48 j = I1 48 j) ∧ I2 48 5 = nI P2.1 ∧ I2 48 6 = nI P2.2.1) ⟨(Fr.rf.up (by decide)).up (by decide), fun i a b => by rw [upR_s, pk_un b, upR_s, pk_un a], by rw [upR_s, pk_un (by decide), upR_s, pk_us]; exact hPr.1, by rw [upR_s, pk_us, upR_s, pk_un (by decide)]; exact hPr.2.1⟩ (fun I2 h2 => ?_)
          refine g_iconst (v := 0) dX11_piece_56 (by decide) ?_
          refine g_istore_n dX11_piece_57 (by decide) ?_
          show Go _ _ _ _ _ _ [_, _, _] _ _ _
          refine go_mem (fun k I3 => Fr [54, 55, 58] I2 I3 ∧ (∀ q, q < k → I3 55 q = I1 57 q) ∧ (∀ q, q < k → q < 14 → I3 54 q = I1 56 q) ∧ ∀ q, q < k → q < 3 → I3 58 (q + 1) = -1) 56 (fun k I3 => Go X (d + 7) 66 M_X11_piece 66 58 [.ref 48, .int (nI j), .int (nI k)] [] (I3, J, rf0) (RI (fun y9 m => ∃ I', m = (I', J, rf0) ∧ FrM I I' ∧ y9 = (S_piece tx P ds sh fn (nI j)).1 ∧ AbsM rw tx (S_piece tx P ds sh fn (nI j)).2.1 (S_piece tx P ds sh fn (nI j)).2.2.1 (S_piece tx P ds sh fn (nI j)).2.2.2.1 tl ch (S_piece tx P ds sh fn (nI j)).2.2.2.2 I' J))) (fun k I3 hk h3 kk => ?_) (fun I3 h3 => ?_) _ ⟨Fr.rf, fun q hq => absurd hq (Nat.not_lt_zero q), fun q hq => absurd hq (Nat.not_lt_zero q), fun q hq => absurd hq (Nat.not_lt_zero q)⟩
          · skip
            refine g_iload_n dX11_piece_58 rfl ?_
            refine g_bipush (v := 56) dX11_piece_59 (by decide) ?_
            refine g_icmp_ge (tgt := 114) dX11_piece_61 (by decide) (fun c61 => ?_) (fun c61 => ?_)
            · exact absurd (nI_lt hk (by decide)) (Int32.not_lt.mpr c61)
            · skip
              refine g_aload_n dX11_piece_64 rfl ?_
              refine t_getR dX11_piece_65 fl_X11_29 rfl (by decide) rfl (by decide) rfl ?_
              refine g_iload_n dX11_piece_68 rfl ?_
              refine g_aload_n dX11_piece_69 rfl ?_
              refine t_getR dX11_piece_70 fl_X11_35 rfl (by decide) rfl (by decide) rfl ?_
              refine g_iload_n dX11_piece_73 rfl ?_
              refine t_iald dX11_piece_74 rfl (by decide) (in_nI hk (by decide)) ?_
              refine t_iast dX11_piece_75 rfl (by decide) (in_nI hk (by decide)) ?_
              rw [cl_nI (by omega)]
              refine g_abs (fun I4 => Fr [54, 55, 58] I2 I4 ∧ (∀ q, q < k + 1 → I4 55 q = I1 57 q) ∧ (∀ q, q < k → q < 14 → I4 54 q = I1 56 q) ∧ ∀ q, q < k → q < 3 → I4 58 (q + 1) = -1) ⟨h3.1.up (by decide), fun q hq => ?_, fun q a b => by rw [upR_n (by decide)]; exact h3.2.2.1 q a b, fun q a b => by rw [upR_n (by decide)]; exact h3.2.2.2 q a b⟩ (fun I4 h4 => ?_)
              · rw [upR_s]
                by_cases e : q = k
                · rw [e, pk_us, h3.1 57 (by decide), h2.1 57 (by decide)]
                · rw [pk_un e]; exact h3.2.1 q (by omega)
              refine g_iload_n dX11_piece_76 rfl ?_
              refine g_bipush (v := 14) dX11_piece_77 (by decide) ?_
              refine g_icmp_ge (tgt := 94) dX11_piece_79 (by decide) (fun c79 => ?_) (fun c79 => ?_)
              · skip
                refine g_abs (fun I5 => Fr [54, 55, 58] I2 I5 ∧ (∀ q, q < k + 1 → I5 55 q = I1 57 q) ∧ (∀ q, q < k + 1 → q < 14 → I5 54 q = I1 56 q) ∧ ∀ q, q < k → q < 3 → I5 58 (q + 1) = -1) (by
                  first
                    | (rw [cl_nI (by omega)]
                       refine ⟨h4.1.up (by decide), fun q a => by rw [upR_n (by decide)]; exact h4.2.1 q a, fun q a b => ?_, fun q a b => by rw [upR_n (by decide)]; exact h4.2.2.2 q a b⟩
                       rw [upR_s]
                       by_cases e : q = k
                       · rw [e, pk_us, h4.1 56 (by decide), h2.1 56 (by decide)]
                       · rw [pk_un e]; exact h4.2.2.1 q (by omega) b)
                    | (have hge : 14 ≤ k := (nI_leI (by decide) (by omega)).mp c79
                       exact ⟨h4.1, h4.2.1, fun q a b => h4.2.2.1 q (by omega) b, h4.2.2.2⟩)) (fun I5 h5 => ?_)
                refine g_iload_n dX11_piece_94 rfl ?_
                refine g_iconst (v := 3) dX11_piece_95 (by decide) ?_
                refine g_icmp_ge (tgt := 108) dX11_piece_96 (by decide) (fun c96 => ?_) (fun c96 => ?_)
                · skip
                  refine g_iinc dX11_piece_108 rfl (by decide) ?_
                  show Go _ _ _ _ _ _ [_, _, _] _ _ _
                  refine g_goto (tgt := 58) dX11_piece_111 (by decide) ?_
                  rw [nI_inc]
                  first
                    | (rw [nI_1, cl_nI (by omega)]
                       refine kk _ ⟨h5.1.up (by decide), fun q a => by rw [upR_n (by decide)]; exact h5.2.1 q a, fun q a b => by rw [upR_n (by decide)]; exact h5.2.2.1 q a b, fun q a b => ?_⟩
                       rw [upR_s]
                       by_cases e : q = k
                       · rw [e, pk_us]
                       · rw [pk_un (by omega)]; exact h5.2.2.2 q (by omega) b)
                    | (have hge : 3 ≤ k := (nI_leI (by decide) (by omega)).mp c96
                       exact kk _ ⟨h5.1, h5.2.1, h5.2.2.1, fun q a b => h5.2.2.2 q (by omega) b⟩)
                    | fail "no way"
                · skip
                  have hk3 : k < 3 := Nat.lt_of_not_le (fun q => c96 (nI_le q (by omega)))
                  refine g_aload_n dX11_piece_99 rfl ?_
                  refine t_getR dX11_piece_100 fl_X11_38 rfl (by decide) rfl (by decide) rfl ?_
                  refine g_iload_n dX11_piece_103 rfl ?_
                  refine g_iconst (v := 1) dX11_piece_104 (by decide) ?_
                  refine g_iadd dX11_piece_105 ?_
                  refine g_iconst (v := -1) dX11_piece_106 (by decide) ?_
                  refine t_iast dX11_piece_107 rfl (by decide) (by rw [nI_1]; exact in_nI (by omega) (by decide)) ?_
                  refine g_iinc dX11_piece_108 rfl (by decide) ?_
                  show Go _ _ _ _ _ _ [_, _, _] _ _ _
                  refine g_goto (tgt := 58) dX11_piece_111 (by decide) ?_
                  rw [nI_inc]
                  first
                    | (rw [nI_1, cl_nI (by omega)]
                       refine kk _ ⟨h5.1.up (by decide), fun q a => by rw [upR_n (by decide)]; exact h5.2.1 q a, fun q a b => by rw [upR_n (by decide)]; exact h5.2.2.1 q a b, fun q a b => ?_⟩
                       rw [upR_s]
                       by_cases e : q = k
                       · rw [e, pk_us]
                       · rw [pk_un (by omega)]; exact h5.2.2.2 q (by omega) b)
                    | (have hge : 3 ≤ k := (nI_leI (by decide) (by omega)).mp c96
                       exact kk _ ⟨h5.1, h5.2.1, h5.2.2.1, fun q a b => h5.2.2.2 q (by omega) b⟩)
                    | fail "no way"
              · skip
                have hk14 : k < 14 := Nat.lt_of_not_le (fun q => c79 (nI_le q (by omega)))
                refine g_aload_n dX11_piece_82 rfl ?_
                refine t_getR dX11_piece_83 fl_X11_26 rfl (by decide) rfl (by decide) rfl ?_
                refine g_iload_n dX11_piece_86 rfl ?_
                refine g_aload_n dX11_piece_87 rfl ?_
                refine t_getR dX11_piece_88 fl_X11_32 rfl (by decide) rfl (by decide) rfl ?_
                refine g_iload_n dX11_piece_91 rfl ?_
                refine t_iald dX11_piece_92 rfl (by decide) (in_nI hk14 (by decide)) ?_
                refine t_iast dX11_piece_93 rfl (by decide) (in_nI hk14 (by decide)) ?_
                refine g_abs (fun I5 => Fr [54, 55, 58] I2 I5 ∧ (∀ q, q < k + 1 → I5 55 q = I1 57 q) ∧ (∀ q, q < k + 1 → q < 14 → I5 54 q = I1 56 q) ∧ ∀ q, q < k → q < 3 → I5 58 (q + 1) = -1) (by
                  first
                    | (rw [cl_nI (by omega)]
                       refine ⟨h4.1.up (by decide), fun q a => by rw [upR_n (by decide)]; exact h4.2.1 q a, fun q a b => ?_, fun q a b => by rw [upR_n (by decide)]; exact h4.2.2.2 q a b⟩
                       rw [upR_s]
                       by_cases e : q = k
                       · rw [e, pk_us, h4.1 56 (by decide), h2.1 56 (by decide)]
                       · rw [pk_un e]; exact h4.2.2.1 q (by omega) b)
                    | (have hge : 14 ≤ k := (nI_leI (by decide) (by omega)).mp c79
                       exact ⟨h4.1, h4.2.1, fun q a b => h4.2.2.1 q (by omega) b, h4.2.2.2⟩)) (fun I5 h5 => ?_)
                refine g_iload_n dX11_piece_94 rfl ?_
                refine g_iconst (v := 3) dX11_piece_95 (by decide) ?_
                refine g_icmp_ge (tgt := 108) dX11_piece_96 (by decide) (fun c96 => ?_) (fun c96 => ?_)
                · skip
                  refine g_iinc dX11_piece_108 rfl (by decide) ?_
                  show Go _ _ _ _ _ _ [_, _, _] _ _ _
                  refine g_goto (tgt := 58) dX11_piece_111 (by decide) ?_
                  rw [nI_inc]
                  first
                    | (rw [nI_1, cl_nI (by omega)]
                       refine kk _ ⟨h5.1.up (by decide), fun q a => by rw [upR_n (by decide)]; exact h5.2.1 q a, fun q a b => by rw [upR_n (by decide)]; exact h5.2.2.1 q a b, fun q a b => ?_⟩
                       rw [upR_s]
                       by_cases e : q = k
                       · rw [e, pk_us]
                       · rw [pk_un (by omega)]; exact h5.2.2.2 q (by omega) b)
                    | (have hge : 3 ≤ k := (nI_leI (by decide) (by omega)).mp c96
                       exact kk _ ⟨h5.1, h5.2.1, h5.2.2.1, fun q a b => h5.2.2.2 q (by omega) b⟩)
                    | fail "no way"
                · skip
                  have hk3 : k < 3 := Nat.lt_of_not_le (fun q => c96 (nI_le q (by omega)))
                  refine g_aload_n dX11_piece_99 rfl ?_
                  refine t_getR dX11_piece_100 fl_X11_38 rfl (by decide) rfl (by decide) rfl ?_
                  refine g_iload_n dX11_piece_103 rfl ?_
                  refine g_iconst (v := 1) dX11_piece_104 (by decide) ?_
                  refine g_iadd dX11_piece_105 ?_
                  refine g_iconst (v := -1) dX11_piece_106 (by decide) ?_
                  refine t_iast dX11_piece_107 rfl (by decide) (by rw [nI_1]; exact in_nI (by omega) (by decide)) ?_
                  refine g_iinc dX11_piece_108 rfl (by decide) ?_
                  show Go _ _ _ _ _ _ [_, _, _] _ _ _
                  refine g_goto (tgt := 58) dX11_piece_111 (by decide) ?_
                  rw [nI_inc]
                  first
                    | (rw [nI_1, cl_nI (by omega)]
                       refine kk _ ⟨h5.1.up (by decide), fun q a => by rw [upR_n (by decide)]; exact h5.2.1 q a, fun q a b => by rw [upR_n (by decide)]; exact h5.2.2.1 q a b, fun q a b => ?_⟩
                       rw [upR_s]
                       by_cases e : q = k
                       · rw [e, pk_us]
                       · rw [pk_un (by omega)]; exact h5.2.2.2 q (by omega) b)
                    | (have hge : 3 ≤ k := (nI_leI (by decide) (by omega)).mp c96
                       exact kk _ ⟨h5.1, h5.2.1, h5.2.2.1, fun q a b => h5.2.2.2 q (by omega) b⟩)
                    | fail "no way"
          · skip
            refine g_iload_n dX11_piece_58 rfl ?_
            refine g_bipush (v := 56) dX11_piece_59 (by decide) ?_
            refine g_icmp_ge (tgt := 114) dX11_piece_61 (by decide) (fun c61 => ?_) (fun c61 => ?_)
            · skip
              refine g_aload_n dX11_piece_114 rfl ?_
              refine t_getR dX11_piece_115 fl_X11_38 rfl (by decide) rfl (by decide) rfl ?_
              refine g_iconst (v := 0) dX11_piece_118 (by decide) ?_
              refine g_iconst (v := 0) dX11_piece_119 (by decide) ?_
              refine t_iast dX11_piece_120 rfl (by decide) (in_nI (j := 0) (by decide) (by decide)) ?_
              rw [show (0 : Int32).toNatClampNeg = 0 by decide]
              refine g_abs (fun I4 => Fr [54, 55, 58] I2 I4 ∧ (∀ q, q < 56 → I4 55 q = I1 57 q) ∧ (∀ q, q < 14 → I4 54 q = I1 56 q) ∧ (∀ q, q < 3 → I4 58 (q + 1) = -1) ∧ I4 58 0 = nI 0) ⟨h3.1.up (by decide), fun q a => by rw [upR_n (by decide)]; exact h3.2.1 q a, fun q a => by rw [upR_n (by decide)]; exact h3.2.2.1 q (by omega) a, fun q a => by rw [upR_s, pk_un (by omega)]; exact h3.2.2.2 q (by omega) a, by rw [upR_s, pk_us]; rfl⟩ (fun I4 h4 => ?_)
              have hP4 : PcM P2 I4 := ⟨by rw [h4.1 48 (by decide)]; exact h2.2.2.1, by rw [h4.1 48 (by decide)]; exact h2.2.2.2, fun x hx => by rw [h4.2.2.1 x (by omega)]; exact hPr.2.2.1 x hx, fun x hx p hp => by rw [h4.2.1 _ (by omega)]; exact hPr.2.2.2 x hx p hp⟩
              refine g_aload_n dX11_piece_121 rfl ?_
              refine g_callVv dX11_piece_122 ln_X11_122 rfl rfl (by decide) ⟨_, _, rfl⟩ rfl (Nat.le_of_ble_eq_true rfl) (Nat.le_of_ble_eq_true rfl) (ct_again (ds := []) (n := 0) hP4 hok (fun i d' hd' => by cases hd') ⟨by decide, trivial⟩ (Nat.le_refl _) h4.2.2.2.2) rfl (fun m122 h122 => ?_)
              obtain ⟨I5, rfl, hf5, hE5⟩ := h122
              refine g_aload_n dX11_piece_125 rfl ?_
              refine t_getI dX11_piece_126 fl_X11_119 rfl (by decide) rfl (by decide) ?_
              refine g_iret dX11_piece_129 (fun ty h => by cases h; rfl) ?_
              have hS : S_piece tx P ds sh fn (nI j) = (nI P2.2.1, P2, [], fun _ => none, fn) := by unfold S_piece; rw [look_nI (by decide) hj, htj]; show (match rdAll (tx.2 j) c with | .inl _ => (-4, P, ds, sh, fn) | .inr P' => (nI P'.2.1, P', [], fun _ => none, fn)) = _; rw [hh]
              have hP9 : PcM P2 I5 := hf5.pc hP4
              have hf9 : Fr [48, 54, 55, 56, 57, 58, 60, 61, 63] I I5 := ((hf1.1.mono (by decide)).trans ((h2.1.mono (by decide)).trans (h4.1.mono (by decide)))).trans (hf5.1.mono (by decide))
              refine ⟨_, rfl, FrM.of hf9 (by decide), by rw [hS]; exact hP9.2.1, ?_⟩
              rw [hS]
              refine hA.upPc hf9 (fun i hi => by rw [hf5.2 i (by omega) (by omega) (by omega), h4.1 48 (by decide), h2.2.1 i (by omega) (by omega), hf1.2 i (by omega) (by omega)]) hP9 ⟨by rw [hf5.1 58 (by decide)]; exact h4.2.2.2.2, fun i d' hd' => (by cases hd'), hE5⟩ (fun k hk => ⟨by rw [hf5.1 58 (by decide)]; exact h4.2.2.2.1 k hk, fun es he => by cases he⟩)
            · exact absurd (Int32.le_refl _) c61
        · exact absurd (show (-1 : Int32) < 0 by decide) (by have := c34; rwa [hrd.1] at this)
    · skip
      refine g_aload_n dX11_piece_23 rfl ?_
      refine g_iconst (v := 1) dX11_piece_24 (by decide) ?_
      refine g_callVi dX11_piece_25 ln_X11_80 ⟨_, rfl⟩ rfl (by decide) ⟨_, _, rfl⟩ rfl (Nat.le_of_ble_eq_true rfl) (Nat.le_of_ble_eq_true rfl) (ct_finds (w := 1) (by decide)) rfl (fun r25 m25 h25 => ?_)
      obtain ⟨rfl, rfl⟩ := h25
      refine g_iret dX11_piece_28 (fun ty h => by cases h; rfl) ?_
      have htj : tx.1 j = none := by
        cases hh : tx.1 j with
        | none => rfl
        | some q =>
          rw [hh] at c20
          have := hO.2.1 j hj q hh
          exact absurd (nI_pos' (by omega)) (show ¬ 0 ≤ nI q from c20)
      have hS : S_piece tx P ds sh fn (nI j) = (-3, P, ds, sh, fndS 1 fn) := by unfold S_piece; rw [look_nI (by decide) hj, htj]
      exact ⟨_, rfl, FrM.find, by rw [hS], by rw [hS]; exact hA.find (by decide)⟩
  · skip
    refine g_iconst (v := -1) dX11_piece_12 (by decide) ?_
    refine g_iret dX11_piece_13 (fun ty h => by cases h; rfl) ?_
    have hS : S_piece tx P ds sh fn t = (-1, P, ds, sh, fn) := by unfold S_piece; rw [look_bad (bI_eq c9)]
    exact ⟨_, rfl, FrM.rf, by rw [hS], by rw [hS]; exact hA⟩
end
