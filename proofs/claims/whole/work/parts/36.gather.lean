section
variable {X : Nat × (Nat → Int32)} {d : Nat} {I : Nat → Nat → Int32} {J : Nat → Nat → Int64}
/-! ===== promises 37 to 39, class side ===== -/
def eqP (n : Nat) (s : Nat → Int32) : Bool := decide (∀ p, p < n → s p = s 0)
def lwF (s : Nat → Int32) (n : Nat) : Int32 := foldN (fun p a => if s p < a then s p else a) 2 n
def hgF (s : Nat → Int32) (n : Nat) : Int32 := foldN (fun p a => if a < s p then s p else a) (-2) n
def atN (s : Nat → Int32) (v : Int32) (n : Nat) : Nat := cntP (fun p => decide (s p = v)) n
def flF (n : Nat) (s : Nat → Int32) (i : Nat) : Int32 × Nat := foldN (fun i a => if a.2 < atN s (zI ((i : Int) - 2)) n then (zI ((i : Int) - 2), atN s (zI ((i : Int) - 2)) n) else a) (0, 0) i
theorem flF_s (n : Nat) (s : Nat → Int32) (i : Nat) : flF n s (i + 1) = if (flF n s i).2 < atN s (zI ((i : Int) - 2)) n then (zI ((i : Int) - 2), atN s (zI ((i : Int) - 2)) n) else flF n s i := rfl
theorem flF_le (n : Nat) (s : Nat → Int32) : ∀ i, (flF n s i).2 ≤ n
  | 0 => Nat.zero_le _
  | i + 1 => by
    rw [flF_s]
    split
    · exact cntP_le _ n
    · exact flF_le n s i
def twI (a b : Int32) : Int32 := if a < b then a + 1 else if b < a then a - 1 else a
def drI (a l h : Int32) : Int32 := if l = h then a else if a = l then a + 1 else if a = h then a - 1 else a
def nxS (n r : Nat) (s : Nat → Int32) (p : Nat) : Int32 := match r with
  | 0 => s p
  | 1 => s 0
  | 2 => (flF n s 5).1
  | 3 => twI (s p) (s ((p + 1) % n))
  | 4 => twI (s p) (flF n s 5).1
  | _ => drI (s p) (lwF s n) (hgF s n)
def itS (n r : Nat) (s : Nat → Int32) : Nat → Nat → Int32
  | 0 => s
  | k + 1 => nxS n r (itS n r s k)
def wyS (n r : Nat) (s : Nat → Int32) : Option Nat := fstN (fun k => eqP n (itS n r s k)) 21
def mtN (n r c : Nat) : Nat := cntP (fun c => (wyS n r (fun q => zI (oC c q))).isSome) c
theorem foldN_sg {σ : Type} (f : Nat → σ → σ) (s : σ) (n : Nat) : foldN f s (n + 1) = f n (foldN f s n) := rfl
def ruT (n : Nat) (s : Nat → Int32) (r : Nat) (a : Option (Nat × Nat)) : Option (Nat × Nat) := match wyS n r s with
  | none => a
  | some k => match a with
    | none => some (r, k)
    | some b => if k < b.2 then some (r, k) else some b
def ruF (n : Nat) (s : Nat → Int32) (r : Nat) : Option (Nat × Nat) := foldN (ruT n s) none r
theorem ruF_s (n : Nat) (s : Nat → Int32) (r : Nat) : ruF n s (r + 1) = ruT n s r (ruF n s r) := foldN_sg (ruT n s) none r
def outS (P : Pce) (ds : List Deed) : Nat → Int32 := fun q => zI ((evO P ds).2.2.1 q)
def S_together (P : Pce) (ds : List Deed) (tl : Int32) (r : Int32) : Int32 × Int32 :=
  if inR r 6 then (if P.2.1 = 0 then (-4, tl) else match wyS P.1 r.toNatClampNeg (outS P ds) with
    | none => (-9, tl)
    | some k => (nI k, itS P.1 r.toNatClampNeg (outS P ds) k 0 + 2)) else (-1, tl)
def S_rule (P : Pce) (ds : List Deed) (tl : Int32) : Int32 × Int32 :=
  if P.2.1 = 0 then (-4, tl) else match ruF P.1 (outS P ds) 6 with
    | none => (-9, tl)
    | some b => (nI b.1, nI b.2)
def S_signs (P : Pce) (r : Int32) : Int32 := if inR r 6 then (if P.2.1 = 0 then -4 else nI (mtN P.1 r.toNatClampNeg (5 ^ P.1))) else -1
theorem ct_areAtOne {n : Nat} {s : Nat → Int32} (hn : I 22 2 = nI (n + 1)) (h4 : n + 1 ≤ 4) (hs : ∀ q, q < n + 1 → I 45 q = s q) : Ct X d 66 M_X2_areAtOne 66 [.ref 43] (I, J, rf0) (RI (fun y9 m => y9 = bI (eqP (n + 1) s) ∧ m = (I, J, rf0))) := by
  show Go _ _ _ _ _ _ [_, _] _ _ _
  refine g_iconst (v := 1) dX2_areAtOne_0 (by decide) ?_
  refine g_istore_n dX2_areAtOne_1 (by decide) ?_
  show Go _ _ _ _ _ _ [_, _] _ _ _
  refine go_ix n (fun i => (∀ q, q < i + 1 → s q = s 0) → Go X d 66 M_X2_areAtOne 66 2 [.ref 43, .int (nI (i + 1))] [] (I, J, rf0) (RI (fun y9 m => y9 = bI (eqP (n + 1) s) ∧ m = (I, J, rf0)))) (fun i hi kk h0 => ?_) (fun h0 => ?_) (fun q hq => by rw [show q = 0 by omega])
  · skip
    refine g_iload_n dX2_areAtOne_2 rfl ?_
    refine g_aload_n dX2_areAtOne_3 rfl ?_
    refine t_getR dX2_areAtOne_4 fl_X2_21 rfl (by decide) rfl (by decide) rfl ?_
    refine t_getI dX2_areAtOne_7 fl_X2_33 rfl (by decide) rfl (by decide) ?_
    rw [hn]
    refine g_icmp_ge (tgt := 36) dX2_areAtOne_10 (by decide) (fun c10 => ?_) (fun c10 => ?_)
    · exact absurd (nI_lt (show i + 1 < n + 1 by omega) (by omega)) (Int32.not_lt.mpr c10)
    · skip
      refine g_aload_n dX2_areAtOne_13 rfl ?_
      refine t_getR dX2_areAtOne_14 fl_X2_15 rfl (by decide) rfl (by decide) rfl ?_
      refine g_iload_n dX2_areAtOne_17 rfl ?_
      refine t_iald dX2_areAtOne_18 rfl (by decide) (in_nI (by omega) (by decide)) ?_
      rw [cl_nI (by omega), hs (i + 1) (by omega)]
      refine g_aload_n dX2_areAtOne_19 rfl ?_
      refine t_getR dX2_areAtOne_20 fl_X2_15 rfl (by decide) rfl (by decide) rfl ?_
      refine g_iconst (v := 0) dX2_areAtOne_23 (by decide) ?_
      refine t_iald dX2_areAtOne_24 rfl (by decide) (in_nI (j := 0) (by decide) (by decide)) ?_
      rw [show (0 : Int32).toNatClampNeg = 0 by decide, hs 0 (by omega)]
      refine g_icmp_eq (tgt := 30) dX2_areAtOne_25 (by decide) (fun c25 => ?_) (fun c25 => ?_)
      · skip
        refine g_iinc dX2_areAtOne_30 rfl (by decide) ?_
        show Go _ _ _ _ _ _ [_, _] _ _ _
        refine g_goto (tgt := 2) dX2_areAtOne_33 (by decide) ?_
        rw [nI_inc]
        exact kk (fun q hq => by
          rcases Nat.lt_or_ge q (i + 1) with q1 | q1
          · exact h0 q q1
          · rw [show q = i + 1 by omega]; exact c25)
      · skip
        refine g_iconst (v := 0) dX2_areAtOne_28 (by decide) ?_
        refine g_iret dX2_areAtOne_29 (fun ty h => by cases h; rfl) ?_
        refine ⟨?_, rfl⟩
        rw [show eqP (n + 1) s = false from decide_eq_false (fun q => c25 (q (i + 1) (by omega)))]
        rfl
  · skip
    refine g_iload_n dX2_areAtOne_2 rfl ?_
    refine g_aload_n dX2_areAtOne_3 rfl ?_
    refine t_getR dX2_areAtOne_4 fl_X2_21 rfl (by decide) rfl (by decide) rfl ?_
    refine t_getI dX2_areAtOne_7 fl_X2_33 rfl (by decide) rfl (by decide) ?_
    rw [hn]
    refine g_icmp_ge (tgt := 36) dX2_areAtOne_10 (by decide) (fun c10 => ?_) (fun c10 => ?_)
    · skip
      refine g_iconst (v := 1) dX2_areAtOne_36 (by decide) ?_
      refine g_iret dX2_areAtOne_37 (fun ty h => by cases h; rfl) ?_
      refine ⟨?_, rfl⟩
      rw [show eqP (n + 1) s = true from decide_eq_true h0]
      rfl
    · exact absurd (Int32.le_refl _) c10
theorem ct_low {n : Nat} {s : Nat → Int32} (hn : I 22 2 = nI (n + 1)) (h4 : n + 1 ≤ 4) (hs : ∀ q, q < n + 1 → I 45 q = s q) : Ct X (d + 1) 66 M_X2_lowestSpot 66 [.ref 43] (I, J, rf0) (RI (fun y9 m => y9 = lwF s (n + 1) ∧ m = (I, J, rf0))) := by
  show Go _ _ _ _ _ _ [_, _, _] _ _ _
  refine g_iconst (v := 2) dX2_lowestSpot_0 (by decide) ?_
  refine g_istore_n dX2_lowestSpot_1 (by decide) ?_
  show Go _ _ _ _ _ _ [_, _, _] _ _ _
  refine g_iconst (v := 0) dX2_lowestSpot_2 (by decide) ?_
  refine g_istore_n dX2_lowestSpot_3 (by decide) ?_
  show Go _ _ _ _ _ _ [_, _, _] _ _ _
  refine go_ix (n + 1) (fun i => Go X (d + 1) 66 M_X2_lowestSpot 66 4 [.ref 43, .int (lwF s i), .int (nI i)] [] (I, J, rf0) (RI (fun y9 m => y9 = lwF s (n + 1) ∧ m = (I, J, rf0)))) (fun i hi kk => ?_) ?_
  · skip
    refine g_iload_n dX2_lowestSpot_4 rfl ?_
    refine g_aload_n dX2_lowestSpot_5 rfl ?_
    refine t_getR dX2_lowestSpot_6 fl_X2_21 rfl (by decide) rfl (by decide) rfl ?_
    refine t_getI dX2_lowestSpot_9 fl_X2_33 rfl (by decide) rfl (by decide) ?_
    rw [hn]
    refine g_icmp_ge (tgt := 32) dX2_lowestSpot_12 (by decide) (fun c12 => ?_) (fun c12 => ?_)
    · exact absurd (nI_lt hi (by omega)) (Int32.not_lt.mpr c12)
    · skip
      refine g_iload_n dX2_lowestSpot_15 rfl ?_
      refine g_aload_n dX2_lowestSpot_16 rfl ?_
      refine t_getR dX2_lowestSpot_17 fl_X2_15 rfl (by decide) rfl (by decide) rfl ?_
      refine g_iload_n dX2_lowestSpot_20 rfl ?_
      refine t_iald dX2_lowestSpot_21 rfl (by decide) (in_nI (by omega) (by decide)) ?_
      rw [cl_nI (by omega), hs i hi]
      refine g_mmin dX2_lowestSpot_22 mm_X2_75 (Nat.le_of_ble_eq_true rfl) ?_
      refine g_istore_n dX2_lowestSpot_25 (by decide) ?_
      show Go _ _ _ _ _ _ [_, _, _] _ _ _
      refine g_iinc dX2_lowestSpot_26 rfl (by decide) ?_
      show Go _ _ _ _ _ _ [_, _, _] _ _ _
      refine g_goto (tgt := 4) dX2_lowestSpot_29 (by decide) ?_
      rw [nI_inc]
      exact kk
  · skip
    refine g_iload_n dX2_lowestSpot_4 rfl ?_
    refine g_aload_n dX2_lowestSpot_5 rfl ?_
    refine t_getR dX2_lowestSpot_6 fl_X2_21 rfl (by decide) rfl (by decide) rfl ?_
    refine t_getI dX2_lowestSpot_9 fl_X2_33 rfl (by decide) rfl (by decide) ?_
    rw [hn]
    refine g_icmp_ge (tgt := 32) dX2_lowestSpot_12 (by decide) (fun c12 => ?_) (fun c12 => ?_)
    · skip
      refine g_iload_n dX2_lowestSpot_32 rfl ?_
      refine g_iret dX2_lowestSpot_33 (fun ty h => by cases h; rfl) ?_
      exact ⟨rfl, rfl⟩
    · exact absurd (Int32.le_refl _) c12
theorem ct_high {n : Nat} {s : Nat → Int32} (hn : I 22 2 = nI (n + 1)) (h4 : n + 1 ≤ 4) (hs : ∀ q, q < n + 1 → I 45 q = s q) : Ct X (d + 1) 66 M_X2_highestSpot 66 [.ref 43] (I, J, rf0) (RI (fun y9 m => y9 = hgF s (n + 1) ∧ m = (I, J, rf0))) := by
  show Go _ _ _ _ _ _ [_, _, _] _ _ _
  refine g_bipush (v := -2) dX2_highestSpot_0 (by decide) ?_
  refine g_istore_n dX2_highestSpot_2 (by decide) ?_
  show Go _ _ _ _ _ _ [_, _, _] _ _ _
  refine g_iconst (v := 0) dX2_highestSpot_3 (by decide) ?_
  refine g_istore_n dX2_highestSpot_4 (by decide) ?_
  show Go _ _ _ _ _ _ [_, _, _] _ _ _
  refine go_ix (n + 1) (fun i => Go X (d + 1) 66 M_X2_highestSpot 66 5 [.ref 43, .int (hgF s i), .int (nI i)] [] (I, J, rf0) (RI (fun y9 m => y9 = hgF s (n + 1) ∧ m = (I, J, rf0)))) (fun i hi kk => ?_) ?_
  · skip
    refine g_iload_n dX2_highestSpot_5 rfl ?_
    refine g_aload_n dX2_highestSpot_6 rfl ?_
    refine t_getR dX2_highestSpot_7 fl_X2_21 rfl (by decide) rfl (by decide) rfl ?_
    refine t_getI dX2_highestSpot_10 fl_X2_33 rfl (by decide) rfl (by decide) ?_
    rw [hn]
    refine g_icmp_ge (tgt := 33) dX2_highestSpot_13 (by decide) (fun c13 => ?_) (fun c13 => ?_)
    · exact absurd (nI_lt hi (by omega)) (Int32.not_lt.mpr c13)
    · skip
      refine g_iload_n dX2_highestSpot_16 rfl ?_
      refine g_aload_n dX2_highestSpot_17 rfl ?_
      refine t_getR dX2_highestSpot_18 fl_X2_15 rfl (by decide) rfl (by decide) rfl ?_
      refine g_iload_n dX2_highestSpot_21 rfl ?_
      refine t_iald dX2_highestSpot_22 rfl (by decide) (in_nI (by omega) (by decide)) ?_
      rw [cl_nI (by omega), hs i hi]
      refine g_mmax dX2_highestSpot_23 mm_X2_80 (Nat.le_of_ble_eq_true rfl) ?_
      refine g_istore_n dX2_highestSpot_26 (by decide) ?_
      show Go _ _ _ _ _ _ [_, _, _] _ _ _
      refine g_iinc dX2_highestSpot_27 rfl (by decide) ?_
      show Go _ _ _ _ _ _ [_, _, _] _ _ _
      refine g_goto (tgt := 5) dX2_highestSpot_30 (by decide) ?_
      rw [nI_inc]
      exact kk
  · skip
    refine g_iload_n dX2_highestSpot_5 rfl ?_
    refine g_aload_n dX2_highestSpot_6 rfl ?_
    refine t_getR dX2_highestSpot_7 fl_X2_21 rfl (by decide) rfl (by decide) rfl ?_
    refine t_getI dX2_highestSpot_10 fl_X2_33 rfl (by decide) rfl (by decide) ?_
    rw [hn]
    refine g_icmp_ge (tgt := 33) dX2_highestSpot_13 (by decide) (fun c13 => ?_) (fun c13 => ?_)
    · skip
      refine g_iload_n dX2_highestSpot_33 rfl ?_
      refine g_iret dX2_highestSpot_34 (fun ty h => by cases h; rfl) ?_
      exact ⟨rfl, rfl⟩
    · exact absurd (Int32.le_refl _) c13
theorem ct_full {n : Nat} {s : Nat → Int32} (hn : I 22 2 = nI (n + 1)) (h4 : n + 1 ≤ 4) (hs : ∀ q, q < n + 1 → I 45 q = s q) : Ct X d 66 M_X2_fullestSpot 66 [.ref 43] (I, J, rf0) (RI (fun y9 m => y9 = (flF (n + 1) s 5).1 ∧ m = (I, J, rf0))) := by
  show Go _ _ _ _ _ _ [_, _, _, _, _, _] _ _ _
  refine g_iconst (v := 0) dX2_fullestSpot_0 (by decide) ?_
  refine g_istore_n dX2_fullestSpot_1 (by decide) ?_
  show Go _ _ _ _ _ _ [_, _, _, _, _, _] _ _ _
  refine g_iconst (v := 0) dX2_fullestSpot_2 (by decide) ?_
  refine g_istore_n dX2_fullestSpot_3 (by decide) ?_
  show Go _ _ _ _ _ _ [_, _, _, _, _, _] _ _ _
  refine g_bipush (v := -2) dX2_fullestSpot_4 (by decide) ?_
  refine g_istore_n dX2_fullestSpot_6 (by decide) ?_
  show Go _ _ _ _ _ _ [_, _, _, _, _, _] _ _ _
  refine go_ix 5 (fun i => Go X d 66 M_X2_fullestSpot 66 7 [.ref 43, .int (flF (n + 1) s i).1, .int (nI (flF (n + 1) s i).2), .int (zI ((i : Int) - 2)), .null, .null] [] (I, J, rf0) (RI (fun y9 m => y9 = (flF (n + 1) s 5).1 ∧ m = (I, J, rf0)))) (fun i hi kk => ?_) ?_
  · skip
    refine g_iload_n dX2_fullestSpot_7 rfl ?_
    refine g_iconst (v := 2) dX2_fullestSpot_8 (by decide) ?_
    refine g_icmp_gt (tgt := 67) dX2_fullestSpot_9 (by decide) (fun c9 => ?_) (fun c9 => ?_)
    · exact absurd c9 (by rw [show (2 : Int32) = zI 2 from rfl, z_lt (by omega) (by omega)]; omega)
    · skip
      refine g_iconst (v := 0) dX2_fullestSpot_12 (by decide) ?_
      refine g_istore dX2_fullestSpot_13 (by decide) ?_
      show Go _ _ _ _ _ _ [_, _, _, _, _, _] _ _ _
      refine g_iconst (v := 0) dX2_fullestSpot_15 (by decide) ?_
      refine g_istore dX2_fullestSpot_16 (by decide) ?_
      show Go _ _ _ _ _ _ [_, _, _, _, _, _] _ _ _
      refine go_ix (n + 1) (fun p => Go X d 66 M_X2_fullestSpot 66 18 [.ref 43, .int (flF (n + 1) s i).1, .int (nI (flF (n + 1) s i).2), .int (zI ((i : Int) - 2)), .int (nI (atN s (zI ((i : Int) - 2)) p)), .int (nI p)] [] (I, J, rf0) (RI (fun y9 m => y9 = (flF (n + 1) s 5).1 ∧ m = (I, J, rf0)))) (fun p hp kk2 => ?_) ?_
      · skip
        refine g_iload dX2_fullestSpot_18 rfl ?_
        refine g_aload_n dX2_fullestSpot_20 rfl ?_
        refine t_getR dX2_fullestSpot_21 fl_X2_21 rfl (by decide) rfl (by decide) rfl ?_
        refine t_getI dX2_fullestSpot_24 fl_X2_33 rfl (by decide) rfl (by decide) ?_
        rw [hn]
        refine g_icmp_ge (tgt := 50) dX2_fullestSpot_27 (by decide) (fun c27 => ?_) (fun c27 => ?_)
        · exact absurd (nI_lt hp (by omega)) (Int32.not_lt.mpr c27)
        · skip
          refine g_aload_n dX2_fullestSpot_30 rfl ?_
          refine t_getR dX2_fullestSpot_31 fl_X2_15 rfl (by decide) rfl (by decide) rfl ?_
          refine g_iload dX2_fullestSpot_34 rfl ?_
          refine t_iald dX2_fullestSpot_36 rfl (by decide) (in_nI (by omega) (by decide)) ?_
          rw [cl_nI (by omega), hs p hp]
          refine g_iload_n dX2_fullestSpot_37 rfl ?_
          refine g_icmp_ne (tgt := 44) dX2_fullestSpot_38 (by decide) (fun c38 => ?_) (fun c38 => ?_)
          · skip
            refine g_iinc dX2_fullestSpot_44 rfl (by decide) ?_
            show Go _ _ _ _ _ _ [_, _, _, _, _, _] _ _ _
            refine g_goto (tgt := 18) dX2_fullestSpot_47 (by decide) ?_
            rw [show atN s (zI ((i : Int) - 2)) (p + 1) = if decide (s p = zI ((i : Int) - 2)) then atN s (zI ((i : Int) - 2)) p + 1 else atN s (zI ((i : Int) - 2)) p from rfl] at kk2
            first
              | (rw [if_pos (decide_eq_true c38)] at kk2
                 rw [nI_inc, nI_inc]
                 exact kk2)
              | (rw [if_neg (show ¬ decide (s p = zI ((i : Int) - 2)) = true by rw [decide_eq_false c38]; decide)] at kk2
                 rw [nI_inc]
                 exact kk2)
              | fail "no way"
          · skip
            refine g_iinc dX2_fullestSpot_41 rfl (by decide) ?_
            show Go _ _ _ _ _ _ [_, _, _, _, _, _] _ _ _
            refine g_iinc dX2_fullestSpot_44 rfl (by decide) ?_
            show Go _ _ _ _ _ _ [_, _, _, _, _, _] _ _ _
            refine g_goto (tgt := 18) dX2_fullestSpot_47 (by decide) ?_
            rw [show atN s (zI ((i : Int) - 2)) (p + 1) = if decide (s p = zI ((i : Int) - 2)) then atN s (zI ((i : Int) - 2)) p + 1 else atN s (zI ((i : Int) - 2)) p from rfl] at kk2
            first
              | (rw [if_pos (decide_eq_true c38)] at kk2
                 rw [nI_inc, nI_inc]
                 exact kk2)
              | (rw [if_neg (show ¬ decide (s p = zI ((i : Int) - 2)) = true by rw [decide_eq_false c38]; decide)] at kk2
                 rw [nI_inc]
                 exact kk2)
              | fail "no way"
      · skip
        refine g_iload dX2_fullestSpot_18 rfl ?_
        refine g_aload_n dX2_fullestSpot_20 rfl ?_
        refine t_getR dX2_fullestSpot_21 fl_X2_21 rfl (by decide) rfl (by decide) rfl ?_
        refine t_getI dX2_fullestSpot_24 fl_X2_33 rfl (by decide) rfl (by decide) ?_
        rw [hn]
        refine g_icmp_ge (tgt := 50) dX2_fullestSpot_27 (by decide) (fun c27 => ?_) (fun c27 => ?_)
        · skip
          refine g_iload dX2_fullestSpot_50 rfl ?_
          refine g_iload_n dX2_fullestSpot_52 rfl ?_
          refine g_icmp_le (tgt := 61) dX2_fullestSpot_53 (by decide) (fun c53 => ?_) (fun c53 => ?_)
          · skip
            refine g_iinc dX2_fullestSpot_61 rfl (by decide) ?_
            show Go _ _ _ _ _ _ [_, _, _, _, _, _] _ _ _
            refine g_goto (tgt := 7) dX2_fullestSpot_64 (by decide) ?_
            refine g_forget 4 ?_
            refine g_forget 5 ?_
            show Go _ _ _ _ _ _ [_, _, _, _, _, _] _ _ _
            rw [ze_inc]
            rw [flF_s] at kk
            have b1 := flF_le (n + 1) s i
            have b2 : atN s (zI ((i : Int) - 2)) (n + 1) ≤ n + 1 := cntP_le _ _
            first
              | (rw [if_pos ((nI_ltI (by omega) (by omega)).mp (Int32.not_le.mp c53))] at kk
                 exact kk)
              | (rw [if_neg (fun q => absurd (nI_lt q (by omega)) (Int32.not_lt.mpr c53))] at kk
                 exact kk)
              | fail "no way"
          · skip
            refine g_iload dX2_fullestSpot_56 rfl ?_
            refine g_istore_n dX2_fullestSpot_58 (by decide) ?_
            show Go _ _ _ _ _ _ [_, _, _, _, _, _] _ _ _
            refine g_iload_n dX2_fullestSpot_59 rfl ?_
            refine g_istore_n dX2_fullestSpot_60 (by decide) ?_
            show Go _ _ _ _ _ _ [_, _, _, _, _, _] _ _ _
            refine g_iinc dX2_fullestSpot_61 rfl (by decide) ?_
            show Go _ _ _ _ _ _ [_, _, _, _, _, _] _ _ _
            refine g_goto (tgt := 7) dX2_fullestSpot_64 (by decide) ?_
            refine g_forget 4 ?_
            refine g_forget 5 ?_
            show Go _ _ _ _ _ _ [_, _, _, _, _, _] _ _ _
            rw [ze_inc]
            rw [flF_s] at kk
            have b1 := flF_le (n + 1) s i
            have b2 : atN s (zI ((i : Int) - 2)) (n + 1) ≤ n + 1 := cntP_le _ _
            first
              | (rw [if_pos ((nI_ltI (by omega) (by omega)).mp (Int32.not_le.mp c53))] at kk
                 exact kk)
              | (rw [if_neg (fun q => absurd (nI_lt q (by omega)) (Int32.not_lt.mpr c53))] at kk
                 exact kk)
              | fail "no way"
        · exact absurd (Int32.le_refl _) c27
  · skip
    refine g_iload_n dX2_fullestSpot_7 rfl ?_
    refine g_iconst (v := 2) dX2_fullestSpot_8 (by decide) ?_
    refine g_icmp_gt (tgt := 67) dX2_fullestSpot_9 (by decide) (fun c9 => ?_) (fun c9 => ?_)
    · skip
      refine g_iload_n dX2_fullestSpot_67 rfl ?_
      refine g_iret dX2_fullestSpot_68 (fun ty h => by cases h; rfl) ?_
      exact ⟨rfl, rfl⟩
    · exact absurd (by decide) c9
theorem ct_step {a b : Int32} : Ct X d 66 M_X2_stepTowards 66 [.int a, .int b] (I, J, rf0) (RI (fun y9 m => y9 = twI a b ∧ m = (I, J, rf0))) := by
  show Go _ _ _ _ _ _ [_, _] _ _ _
  refine g_iload_n dX2_stepTowards_0 rfl ?_
  refine g_iload_n dX2_stepTowards_1 rfl ?_
  refine g_icmp_ge (tgt := 9) dX2_stepTowards_2 (by decide) (fun c2 => ?_) (fun c2 => ?_)
  · skip
    refine g_iload_n dX2_stepTowards_9 rfl ?_
    refine g_iload_n dX2_stepTowards_10 rfl ?_
    refine g_icmp_le (tgt := 20) dX2_stepTowards_11 (by decide) (fun c11 => ?_) (fun c11 => ?_)
    · skip
      refine g_iload_n dX2_stepTowards_20 rfl ?_
      refine g_iret dX2_stepTowards_21 (fun ty h => by cases h; rfl) ?_
      refine ⟨?_, rfl⟩
      unfold twI
      rw [if_neg (Int32.not_lt.mpr c2)]
      first
        | rw [if_pos (Int32.not_le.mp c11)]
        | rw [if_neg (Int32.not_lt.mpr c11)]
        | fail "no way"
    · skip
      refine g_iload_n dX2_stepTowards_14 rfl ?_
      refine g_iconst (v := 1) dX2_stepTowards_15 (by decide) ?_
      refine g_isub dX2_stepTowards_16 ?_
      refine g_goto (tgt := 21) dX2_stepTowards_17 (by decide) ?_
      refine g_iret dX2_stepTowards_21 (fun ty h => by cases h; rfl) ?_
      refine ⟨?_, rfl⟩
      unfold twI
      rw [if_neg (Int32.not_lt.mpr c2)]
      first
        | rw [if_pos (Int32.not_le.mp c11)]
        | rw [if_neg (Int32.not_lt.mpr c11)]
        | fail "no way"
  · skip
    refine g_iload_n dX2_stepTowards_5 rfl ?_
    refine g_iconst (v := 1) dX2_stepTowards_6 (by decide) ?_
    refine g_iadd dX2_stepTowards_7 ?_
    refine g_iret dX2_stepTowards_8 (fun ty h => by cases h; rfl) ?_
    exact ⟨by unfold twI; rw [if_pos (Int32.not_le.mp c2)], rfl⟩
theorem ct_drawn {a l h : Int32} : Ct X d 66 M_X2_drawnIn 66 [.int a, .int l, .int h] (I, J, rf0) (RI (fun y9 m => y9 = drI a l h ∧ m = (I, J, rf0))) := by
  show Go _ _ _ _ _ _ [_, _, _] _ _ _
  refine g_iload_n dX2_drawnIn_0 rfl ?_
  refine g_iload_n dX2_drawnIn_1 rfl ?_
  refine g_icmp_ne (tgt := 7) dX2_drawnIn_2 (by decide) (fun c2 => ?_) (fun c2 => ?_)
  · skip
    refine g_iload_n dX2_drawnIn_7 rfl ?_
    refine g_iload_n dX2_drawnIn_8 rfl ?_
    refine g_icmp_ne (tgt := 16) dX2_drawnIn_9 (by decide) (fun c9 => ?_) (fun c9 => ?_)
    · skip
      refine g_iload_n dX2_drawnIn_16 rfl ?_
      refine g_iload_n dX2_drawnIn_17 rfl ?_
      refine g_icmp_ne (tgt := 27) dX2_drawnIn_18 (by decide) (fun c18 => ?_) (fun c18 => ?_)
      · skip
        refine g_iload_n dX2_drawnIn_27 rfl ?_
        refine g_iret dX2_drawnIn_28 (fun ty h => by cases h; rfl) ?_
        refine ⟨?_, rfl⟩
        unfold drI
        rw [if_neg c2, if_neg c9]
        first
          | rw [if_pos c18]
          | rw [if_neg c18]
          | fail "no way"
      · skip
        refine g_iload_n dX2_drawnIn_21 rfl ?_
        refine g_iconst (v := 1) dX2_drawnIn_22 (by decide) ?_
        refine g_isub dX2_drawnIn_23 ?_
        refine g_goto (tgt := 28) dX2_drawnIn_24 (by decide) ?_
        refine g_iret dX2_drawnIn_28 (fun ty h => by cases h; rfl) ?_
        refine ⟨?_, rfl⟩
        unfold drI
        rw [if_neg c2, if_neg c9]
        first
          | rw [if_pos c18]
          | rw [if_neg c18]
          | fail "no way"
    · skip
      refine g_iload_n dX2_drawnIn_12 rfl ?_
      refine g_iconst (v := 1) dX2_drawnIn_13 (by decide) ?_
      refine g_iadd dX2_drawnIn_14 ?_
      refine g_iret dX2_drawnIn_15 (fun ty h => by cases h; rfl) ?_
      exact ⟨by unfold drI; rw [if_neg c2, if_pos c9], rfl⟩
  · skip
    refine g_iload_n dX2_drawnIn_5 rfl ?_
    refine g_iret dX2_drawnIn_6 (fun ty h => by cases h; rfl) ?_
    exact ⟨by unfold drI; rw [if_pos c2], rfl⟩
theorem ct_goOneBar {n : Nat} {s : Nat → Int32} (hn : I 22 2 = nI (n + 1)) (h4 : n + 1 ≤ 4) (hs : ∀ q, q < n + 1 → I 45 q = s q) {r : Nat} (hr : r < 6) : Ct X (d + 2) 66 M_X2_goOneBar 66 [.ref 43, .int (nI r)] (I, J, rf0) (RV (fun m => ∃ I', m = (I', J, rf0) ∧ Fr [45, 46] I I' ∧ ∀ q, q < n + 1 → I' 45 q = nxS (n + 1) r s q)) := by
  show Go _ _ _ _ _ _ [_, _, _, _, _, _] _ _ _
  refine g_iload_n dX2_goOneBar_0 rfl ?_
  refine g_iconst (v := 2) dX2_goOneBar_1 (by decide) ?_
  refine g_icmp_eq (tgt := 10) dX2_goOneBar_2 (by decide) (fun c2 => ?_) (fun c2 => ?_)
  · skip
    refine g_aload_n dX2_goOneBar_10 rfl ?_
    refine g_callVi dX2_goOneBar_11 ln_X2_51 ⟨_, rfl⟩ rfl (by decide) ⟨_, _, rfl⟩ rfl (Nat.le_of_ble_eq_true rfl) (Nat.le_of_ble_eq_true rfl) (ct_full hn h4 hs) rfl (fun r11 m11 h11 => ?_)
    obtain ⟨rfl, rfl⟩ := h11
    refine g_goto (tgt := 18) dX2_goOneBar_14 (by decide) ?_
    refine t_ist (fun m hm => ?_)
    refine g_istore_n dX2_goOneBar_18 (by decide) ?_
    show Go _ _ _ _ _ _ [_, _, _, _, _, _] _ _ _
    have hm0 : (r = 2 ∨ r = 4) → m = (flF (n + 1) s 5).1 := by
      first
        | exact fun _ => hm
        | exact fun q => q.elim (fun q => absurd (by rw [q]; rfl) c2) (fun q => absurd (by rw [q]; rfl) c7)
        | fail "no way"
    refine g_aload_n dX2_goOneBar_19 rfl ?_
    refine g_callVi dX2_goOneBar_20 ln_X2_55 ⟨_, rfl⟩ rfl (by decide) ⟨_, _, rfl⟩ rfl (Nat.le_of_ble_eq_true rfl) (Nat.le_of_ble_eq_true rfl) (ct_low hn h4 hs) rfl (fun r20 m20 h20 => ?_)
    obtain ⟨rfl, rfl⟩ := h20
    refine g_istore_n dX2_goOneBar_23 (by decide) ?_
    show Go _ _ _ _ _ _ [_, _, _, _, _, _] _ _ _
    refine g_aload_n dX2_goOneBar_24 rfl ?_
    refine g_callVi dX2_goOneBar_25 ln_X2_58 ⟨_, rfl⟩ rfl (by decide) ⟨_, _, rfl⟩ rfl (Nat.le_of_ble_eq_true rfl) (Nat.le_of_ble_eq_true rfl) (ct_high hn h4 hs) rfl (fun r25 m25 h25 => ?_)
    obtain ⟨rfl, rfl⟩ := h25
    refine g_istore dX2_goOneBar_28 (by decide) ?_
    show Go _ _ _ _ _ _ [_, _, _, _, _, _] _ _ _
    refine g_iconst (v := 0) dX2_goOneBar_30 (by decide) ?_
    refine g_istore dX2_goOneBar_31 (by decide) ?_
    show Go _ _ _ _ _ _ [_, _, _, _, _, _] _ _ _
    refine go_mem (fun p I2 => Fr [45, 46] I I2 ∧ I2 45 = I 45 ∧ ∀ q, q < p → I2 46 q = nxS (n + 1) r s q) (n + 1) (fun p I2 => Go X (d + 2) 66 M_X2_goOneBar 66 33 [.ref 43, .int (nI r), .int m, .int (lwF s (n + 1)), .int (hgF s (n + 1)), .int (nI p)] [] (I2, J, rf0) (RV (fun m => ∃ I', m = (I', J, rf0) ∧ Fr [45, 46] I I' ∧ ∀ q, q < n + 1 → I' 45 q = nxS (n + 1) r s q))) (fun p I2 hp h9 kk => ?_) (fun I2 h9 => ?_) _ ⟨Fr.rf, rfl, fun q hq => absurd hq (Nat.not_lt_zero q)⟩
    · have hmod : (p + 1) % (n + 1) < n + 1 := Nat.mod_lt _ (by omega)
      refine g_iload dX2_goOneBar_33 rfl ?_
      refine g_aload_n dX2_goOneBar_35 rfl ?_
      refine t_getR dX2_goOneBar_36 fl_X2_21 rfl (by decide) rfl (by decide) rfl ?_
      refine t_getI dX2_goOneBar_39 fl_X2_33 rfl (by decide) rfl (by decide) ?_
      rw [h9.1 22 (by decide), hn]
      refine g_icmp_ge (tgt := 208) dX2_goOneBar_42 (by decide) (fun c42 => ?_) (fun c42 => ?_)
      · exact absurd (nI_lt hp (by omega)) (Int32.not_lt.mpr c42)
      · skip
        refine g_iload_n dX2_goOneBar_45 rfl ?_
        obtain hr6 : r = 0 ∨ r = 1 ∨ r = 2 ∨ r = 3 ∨ r = 4 ∨ r = 5 := by omega
        rcases hr6 with rfl | rfl | rfl | rfl | rfl | rfl
        · skip
          refine g_tabOut (tgt := 188) dX2_goOneBar_46 (by decide) (by decide) ?_
          refine g_aload_n dX2_goOneBar_188 rfl ?_
          refine t_getR dX2_goOneBar_189 fl_X2_18 rfl (by decide) rfl (by decide) rfl ?_
          refine g_iload dX2_goOneBar_192 rfl ?_
          refine g_aload_n dX2_goOneBar_194 rfl ?_
          refine t_getR dX2_goOneBar_195 fl_X2_15 rfl (by decide) rfl (by decide) rfl ?_
          refine g_iload dX2_goOneBar_198 rfl ?_
          refine t_iald dX2_goOneBar_200 rfl (by decide) (in_nI (by omega) (by decide)) ?_
          rw [cl_nI (by omega), h9.2.1, hs p hp]
          refine t_iast dX2_goOneBar_201 rfl (by decide) (in_nI (by omega) (by decide)) ?_
          refine g_iinc dX2_goOneBar_202 rfl (by decide) ?_
          show Go _ _ _ _ _ _ [_, _, _, _, _, _] _ _ _
          refine g_goto (tgt := 33) dX2_goOneBar_205 (by decide) ?_
          rw [nI_inc]
          refine kk _ ⟨h9.1.up (by decide), h9.2.1, fun q hq => ?_⟩
          rw [cl_nI (by omega), upR_s]
          rcases Nat.lt_or_ge q p with q1 | q1
          · rw [pk_un (by omega)]; exact h9.2.2 q q1
          · rw [show q = p by omega, pk_us]
            first
              | rfl
              | (rw [hm0 (Or.inl rfl)]; rfl)
              | (rw [hm0 (Or.inr rfl)]; rfl)
              | fail "no way"
        · skip
          refine g_tabIn (off := 34) (tgt := 80) dX2_goOneBar_46 (by decide) (by decide) (by decide) (by decide) ?_
          refine g_aload_n dX2_goOneBar_80 rfl ?_
          refine t_getR dX2_goOneBar_81 fl_X2_18 rfl (by decide) rfl (by decide) rfl ?_
          refine g_iload dX2_goOneBar_84 rfl ?_
          refine g_aload_n dX2_goOneBar_86 rfl ?_
          refine t_getR dX2_goOneBar_87 fl_X2_15 rfl (by decide) rfl (by decide) rfl ?_
          refine g_iconst (v := 0) dX2_goOneBar_90 (by decide) ?_
          refine t_iald dX2_goOneBar_91 rfl (by decide) (in_nI (j := 0) (by decide) (by decide)) ?_
          rw [show (0 : Int32).toNatClampNeg = 0 by decide, h9.2.1, hs 0 (by omega)]
          refine t_iast dX2_goOneBar_92 rfl (by decide) (in_nI (by omega) (by decide)) ?_
          refine g_goto (tgt := 202) dX2_goOneBar_93 (by decide) ?_
          refine g_iinc dX2_goOneBar_202 rfl (by decide) ?_
          show Go _ _ _ _ _ _ [_, _, _, _, _, _] _ _ _
          refine g_goto (tgt := 33) dX2_goOneBar_205 (by decide) ?_
          rw [nI_inc]
          refine kk _ ⟨h9.1.up (by decide), h9.2.1, fun q hq => ?_⟩
          rw [cl_nI (by omega), upR_s]
          rcases Nat.lt_or_ge q p with q1 | q1
          · rw [pk_un (by omega)]; exact h9.2.2 q q1
          · rw [show q = p by omega, pk_us]
            first
              | rfl
              | (rw [hm0 (Or.inl rfl)]; rfl)
              | (rw [hm0 (Or.inr rfl)]; rfl)
              | fail "no way"
        · skip
          refine g_tabIn (off := 50) (tgt := 96) dX2_goOneBar_46 (by decide) (by decide) (by decide) (by decide) ?_
          refine g_aload_n dX2_goOneBar_96 rfl ?_
          refine t_getR dX2_goOneBar_97 fl_X2_18 rfl (by decide) rfl (by decide) rfl ?_
          refine g_iload dX2_goOneBar_100 rfl ?_
          refine g_iload_n dX2_goOneBar_102 rfl ?_
          refine t_iast dX2_goOneBar_103 rfl (by decide) (in_nI (by omega) (by decide)) ?_
          refine g_goto (tgt := 202) dX2_goOneBar_104 (by decide) ?_
          refine g_iinc dX2_goOneBar_202 rfl (by decide) ?_
          show Go _ _ _ _ _ _ [_, _, _, _, _, _] _ _ _
          refine g_goto (tgt := 33) dX2_goOneBar_205 (by decide) ?_
          rw [nI_inc]
          refine kk _ ⟨h9.1.up (by decide), h9.2.1, fun q hq => ?_⟩
          rw [cl_nI (by omega), upR_s]
          rcases Nat.lt_or_ge q p with q1 | q1
          · rw [pk_un (by omega)]; exact h9.2.2 q q1
          · rw [show q = p by omega, pk_us]
            first
              | rfl
              | (rw [hm0 (Or.inl rfl)]; rfl)
              | (rw [hm0 (Or.inr rfl)]; rfl)
              | fail "no way"
        · skip
          refine g_tabIn (off := 61) (tgt := 107) dX2_goOneBar_46 (by decide) (by decide) (by decide) (by decide) ?_
          refine g_aload_n dX2_goOneBar_107 rfl ?_
          refine t_getR dX2_goOneBar_108 fl_X2_18 rfl (by decide) rfl (by decide) rfl ?_
          refine g_iload dX2_goOneBar_111 rfl ?_
          refine g_aload_n dX2_goOneBar_113 rfl ?_
          refine t_getR dX2_goOneBar_114 fl_X2_15 rfl (by decide) rfl (by decide) rfl ?_
          refine g_iload dX2_goOneBar_117 rfl ?_
          refine t_iald dX2_goOneBar_119 rfl (by decide) (in_nI (by omega) (by decide)) ?_
          rw [cl_nI (by omega), h9.2.1, hs p hp]
          refine g_aload_n dX2_goOneBar_120 rfl ?_
          refine t_getR dX2_goOneBar_121 fl_X2_15 rfl (by decide) rfl (by decide) rfl ?_
          refine g_iload dX2_goOneBar_124 rfl ?_
          refine g_iconst (v := 1) dX2_goOneBar_126 (by decide) ?_
          refine g_iadd dX2_goOneBar_127 ?_
          rw [show (1 : Int32) = nI 1 from rfl, nI_add]
          refine g_aload_n dX2_goOneBar_128 rfl ?_
          refine t_getR dX2_goOneBar_129 fl_X2_21 rfl (by decide) rfl (by decide) rfl ?_
          refine t_getI dX2_goOneBar_132 fl_X2_33 rfl (by decide) rfl (by decide) ?_
          rw [h9.1 22 (by decide), hn]
          refine g_irem dX2_goOneBar_135 (fun q => by have := (nI_eq (by omega) (by decide)).mp (show nI (n + 1) = nI 0 from q); omega) ?_
          rw [pk_rem (by omega) (by omega) (by omega)]
          refine t_iald dX2_goOneBar_136 rfl (by decide) (in_nI (by omega) (by decide)) ?_
          rw [cl_nI (by omega), h9.2.1, hs ((p + 1) % (n + 1)) hmod]
          refine g_callSi dX2_goOneBar_137 ln_X2_61 ⟨_, rfl⟩ rfl (Nat.le_of_ble_eq_true rfl) (Nat.le_of_ble_eq_true rfl) ct_step rfl (fun r137 m137 h137 => ?_)
          obtain ⟨rfl, rfl⟩ := h137
          refine t_iast dX2_goOneBar_140 rfl (by decide) (in_nI (by omega) (by decide)) ?_
          refine g_goto (tgt := 202) dX2_goOneBar_141 (by decide) ?_
          refine g_iinc dX2_goOneBar_202 rfl (by decide) ?_
          show Go _ _ _ _ _ _ [_, _, _, _, _, _] _ _ _
          refine g_goto (tgt := 33) dX2_goOneBar_205 (by decide) ?_
          rw [nI_inc]
          refine kk _ ⟨h9.1.up (by decide), h9.2.1, fun q hq => ?_⟩
          rw [cl_nI (by omega), upR_s]
          rcases Nat.lt_or_ge q p with q1 | q1
          · rw [pk_un (by omega)]; exact h9.2.2 q q1
          · rw [show q = p by omega, pk_us]
            first
              | rfl
              | (rw [hm0 (Or.inl rfl)]; rfl)
              | (rw [hm0 (Or.inr rfl)]; rfl)
              | fail "no way"
        · skip
          refine g_tabIn (off := 98) (tgt := 144) dX2_goOneBar_46 (by decide) (by decide) (by decide) (by decide) ?_
          refine g_aload_n dX2_goOneBar_144 rfl ?_
          refine t_getR dX2_goOneBar_145 fl_X2_18 rfl (by decide) rfl (by decide) rfl ?_
          refine g_iload dX2_goOneBar_148 rfl ?_
          refine g_aload_n dX2_goOneBar_150 rfl ?_
          refine t_getR dX2_goOneBar_151 fl_X2_15 rfl (by decide) rfl (by decide) rfl ?_
          refine g_iload dX2_goOneBar_154 rfl ?_
          refine t_iald dX2_goOneBar_156 rfl (by decide) (in_nI (by omega) (by decide)) ?_
          rw [cl_nI (by omega), h9.2.1, hs p hp]
          refine g_iload_n dX2_goOneBar_157 rfl ?_
          refine g_callSi dX2_goOneBar_158 ln_X2_61 ⟨_, rfl⟩ rfl (Nat.le_of_ble_eq_true rfl) (Nat.le_of_ble_eq_true rfl) ct_step rfl (fun r158 m158 h158 => ?_)
          obtain ⟨rfl, rfl⟩ := h158
          refine t_iast dX2_goOneBar_161 rfl (by decide) (in_nI (by omega) (by decide)) ?_
          refine g_goto (tgt := 202) dX2_goOneBar_162 (by decide) ?_
          refine g_iinc dX2_goOneBar_202 rfl (by decide) ?_
          show Go _ _ _ _ _ _ [_, _, _, _, _, _] _ _ _
          refine g_goto (tgt := 33) dX2_goOneBar_205 (by decide) ?_
          rw [nI_inc]
          refine kk _ ⟨h9.1.up (by decide), h9.2.1, fun q hq => ?_⟩
          rw [cl_nI (by omega), upR_s]
          rcases Nat.lt_or_ge q p with q1 | q1
          · rw [pk_un (by omega)]; exact h9.2.2 q q1
          · rw [show q = p by omega, pk_us]
            first
              | rfl
              | (rw [hm0 (Or.inl rfl)]; rfl)
              | (rw [hm0 (Or.inr rfl)]; rfl)
              | fail "no way"
        · skip
          refine g_tabIn (off := 119) (tgt := 165) dX2_goOneBar_46 (by decide) (by decide) (by decide) (by decide) ?_
          refine g_aload_n dX2_goOneBar_165 rfl ?_
          refine t_getR dX2_goOneBar_166 fl_X2_18 rfl (by decide) rfl (by decide) rfl ?_
          refine g_iload dX2_goOneBar_169 rfl ?_
          refine g_aload_n dX2_goOneBar_171 rfl ?_
          refine t_getR dX2_goOneBar_172 fl_X2_15 rfl (by decide) rfl (by decide) rfl ?_
          refine g_iload dX2_goOneBar_175 rfl ?_
          refine t_iald dX2_goOneBar_177 rfl (by decide) (in_nI (by omega) (by decide)) ?_
          rw [cl_nI (by omega), h9.2.1, hs p hp]
          refine g_iload_n dX2_goOneBar_178 rfl ?_
          refine g_iload dX2_goOneBar_179 rfl ?_
          refine g_callSi dX2_goOneBar_181 ln_X2_65 ⟨_, rfl⟩ rfl (Nat.le_of_ble_eq_true rfl) (Nat.le_of_ble_eq_true rfl) ct_drawn rfl (fun r181 m181 h181 => ?_)
          obtain ⟨rfl, rfl⟩ := h181
          refine t_iast dX2_goOneBar_184 rfl (by decide) (in_nI (by omega) (by decide)) ?_
          refine g_goto (tgt := 202) dX2_goOneBar_185 (by decide) ?_
          refine g_iinc dX2_goOneBar_202 rfl (by decide) ?_
          show Go _ _ _ _ _ _ [_, _, _, _, _, _] _ _ _
          refine g_goto (tgt := 33) dX2_goOneBar_205 (by decide) ?_
          rw [nI_inc]
          refine kk _ ⟨h9.1.up (by decide), h9.2.1, fun q hq => ?_⟩
          rw [cl_nI (by omega), upR_s]
          rcases Nat.lt_or_ge q p with q1 | q1
          · rw [pk_un (by omega)]; exact h9.2.2 q q1
          · rw [show q = p by omega, pk_us]
            first
              | rfl
              | (rw [hm0 (Or.inl rfl)]; rfl)
              | (rw [hm0 (Or.inr rfl)]; rfl)
              | fail "no way"
    · skip
      refine g_iload dX2_goOneBar_33 rfl ?_
      refine g_aload_n dX2_goOneBar_35 rfl ?_
      refine t_getR dX2_goOneBar_36 fl_X2_21 rfl (by decide) rfl (by decide) rfl ?_
      refine t_getI dX2_goOneBar_39 fl_X2_33 rfl (by decide) rfl (by decide) ?_
      rw [h9.1 22 (by decide), hn]
      refine g_icmp_ge (tgt := 208) dX2_goOneBar_42 (by decide) (fun c42 => ?_) (fun c42 => ?_)
      · skip
        refine g_aload_n dX2_goOneBar_208 rfl ?_
        refine t_getR dX2_goOneBar_209 fl_X2_18 rfl (by decide) rfl (by decide) rfl ?_
        refine g_iconst (v := 0) dX2_goOneBar_212 (by decide) ?_
        refine g_aload_n dX2_goOneBar_213 rfl ?_
        refine t_getR dX2_goOneBar_214 fl_X2_15 rfl (by decide) rfl (by decide) rfl ?_
        refine g_iconst (v := 0) dX2_goOneBar_217 (by decide) ?_
        refine g_aload_n dX2_goOneBar_218 rfl ?_
        refine t_getR dX2_goOneBar_219 fl_X2_15 rfl (by decide) rfl (by decide) rfl ?_
        refine t_alen dX2_goOneBar_222 rfl (by decide) ?_
        refine t_copy dX2_goOneBar_223 ac_X2_69 rfl rfl (by decide) (by decide) (by decide) (by decide) (by decide) (by decide) (by decide) (Nat.le_of_ble_eq_true rfl) ?_
        refine g_vret dX2_goOneBar_226 ?_
        refine ⟨_, rfl, h9.1.up (by decide), fun q hq => ?_⟩
        rw [upR_s]
        unfold va_cpy
        rw [if_pos (by rw [show (0 : Int32).toNatClampNeg = 0 by decide, show (nI 4).toNatClampNeg = 4 by decide]; omega)]
        rw [show (0 : Int32).toNatClampNeg = 0 by decide, Nat.zero_add, Nat.sub_zero]
        exact h9.2.2 q hq
      · exact absurd (Int32.le_refl _) c42
  · skip
    refine g_iload_n dX2_goOneBar_5 rfl ?_
    refine g_iconst (v := 4) dX2_goOneBar_6 (by decide) ?_
    refine g_icmp_ne (tgt := 17) dX2_goOneBar_7 (by decide) (fun c7 => ?_) (fun c7 => ?_)
    · skip
      refine g_iconst (v := 0) dX2_goOneBar_17 (by decide) ?_
      refine t_ist (fun m hm => ?_)
      refine g_istore_n dX2_goOneBar_18 (by decide) ?_
      show Go _ _ _ _ _ _ [_, _, _, _, _, _] _ _ _
      have hm0 : (r = 2 ∨ r = 4) → m = (flF (n + 1) s 5).1 := by
        first
          | exact fun _ => hm
          | exact fun q => q.elim (fun q => absurd (by rw [q]; rfl) c2) (fun q => absurd (by rw [q]; rfl) c7)
          | fail "no way"
      refine g_aload_n dX2_goOneBar_19 rfl ?_
      refine g_callVi dX2_goOneBar_20 ln_X2_55 ⟨_, rfl⟩ rfl (by decide) ⟨_, _, rfl⟩ rfl (Nat.le_of_ble_eq_true rfl) (Nat.le_of_ble_eq_true rfl) (ct_low hn h4 hs) rfl (fun r20 m20 h20 => ?_)
      obtain ⟨rfl, rfl⟩ := h20
      refine g_istore_n dX2_goOneBar_23 (by decide) ?_
      show Go _ _ _ _ _ _ [_, _, _, _, _, _] _ _ _
      refine g_aload_n dX2_goOneBar_24 rfl ?_
      refine g_callVi dX2_goOneBar_25 ln_X2_58 ⟨_, rfl⟩ rfl (by decide) ⟨_, _, rfl⟩ rfl (Nat.le_of_ble_eq_true rfl) (Nat.le_of_ble_eq_true rfl) (ct_high hn h4 hs) rfl (fun r25 m25 h25 => ?_)
      obtain ⟨rfl, rfl⟩ := h25
      refine g_istore dX2_goOneBar_28 (by decide) ?_
      show Go _ _ _ _ _ _ [_, _, _, _, _, _] _ _ _
      refine g_iconst (v := 0) dX2_goOneBar_30 (by decide) ?_
      refine g_istore dX2_goOneBar_31 (by decide) ?_
      show Go _ _ _ _ _ _ [_, _, _, _, _, _] _ _ _
      refine go_mem (fun p I2 => Fr [45, 46] I I2 ∧ I2 45 = I 45 ∧ ∀ q, q < p → I2 46 q = nxS (n + 1) r s q) (n + 1) (fun p I2 => Go X (d + 2) 66 M_X2_goOneBar 66 33 [.ref 43, .int (nI r), .int m, .int (lwF s (n + 1)), .int (hgF s (n + 1)), .int (nI p)] [] (I2, J, rf0) (RV (fun m => ∃ I', m = (I', J, rf0) ∧ Fr [45, 46] I I' ∧ ∀ q, q < n + 1 → I' 45 q = nxS (n + 1) r s q))) (fun p I2 hp h9 kk => ?_) (fun I2 h9 => ?_) _ ⟨Fr.rf, rfl, fun q hq => absurd hq (Nat.not_lt_zero q)⟩
      · have hmod : (p + 1) % (n + 1) < n + 1 := Nat.mod_lt _ (by omega)
        refine g_iload dX2_goOneBar_33 rfl ?_
        refine g_aload_n dX2_goOneBar_35 rfl ?_
        refine t_getR dX2_goOneBar_36 fl_X2_21 rfl (by decide) rfl (by decide) rfl ?_
        refine t_getI dX2_goOneBar_39 fl_X2_33 rfl (by decide) rfl (by decide) ?_
        rw [h9.1 22 (by decide), hn]
        refine g_icmp_ge (tgt := 208) dX2_goOneBar_42 (by decide) (fun c42 => ?_) (fun c42 => ?_)
        · exact absurd (nI_lt hp (by omega)) (Int32.not_lt.mpr c42)
        · skip
          refine g_iload_n dX2_goOneBar_45 rfl ?_
          obtain hr6 : r = 0 ∨ r = 1 ∨ r = 2 ∨ r = 3 ∨ r = 4 ∨ r = 5 := by omega
          rcases hr6 with rfl | rfl | rfl | rfl | rfl | rfl
          · skip
            refine g_tabOut (tgt := 188) dX2_goOneBar_46 (by decide) (by decide) ?_
            refine g_aload_n dX2_goOneBar_188 rfl ?_
            refine t_getR dX2_goOneBar_189 fl_X2_18 rfl (by decide) rfl (by decide) rfl ?_
            refine g_iload dX2_goOneBar_192 rfl ?_
            refine g_aload_n dX2_goOneBar_194 rfl ?_
            refine t_getR dX2_goOneBar_195 fl_X2_15 rfl (by decide) rfl (by decide) rfl ?_
            refine g_iload dX2_goOneBar_198 rfl ?_
            refine t_iald dX2_goOneBar_200 rfl (by decide) (in_nI (by omega) (by decide)) ?_
            rw [cl_nI (by omega), h9.2.1, hs p hp]
            refine t_iast dX2_goOneBar_201 rfl (by decide) (in_nI (by omega) (by decide)) ?_
            refine g_iinc dX2_goOneBar_202 rfl (by decide) ?_
            show Go _ _ _ _ _ _ [_, _, _, _, _, _] _ _ _
            refine g_goto (tgt := 33) dX2_goOneBar_205 (by decide) ?_
            rw [nI_inc]
            refine kk _ ⟨h9.1.up (by decide), h9.2.1, fun q hq => ?_⟩
            rw [cl_nI (by omega), upR_s]
            rcases Nat.lt_or_ge q p with q1 | q1
            · rw [pk_un (by omega)]; exact h9.2.2 q q1
            · rw [show q = p by omega, pk_us]
              first
                | rfl
                | (rw [hm0 (Or.inl rfl)]; rfl)
                | (rw [hm0 (Or.inr rfl)]; rfl)
                | fail "no way"
          · skip
            refine g_tabIn (off := 34) (tgt := 80) dX2_goOneBar_46 (by decide) (by decide) (by decide) (by decide) ?_
            refine g_aload_n dX2_goOneBar_80 rfl ?_
            refine t_getR dX2_goOneBar_81 fl_X2_18 rfl (by decide) rfl (by decide) rfl ?_
            refine g_iload dX2_goOneBar_84 rfl ?_
            refine g_aload_n dX2_goOneBar_86 rfl ?_
            refine t_getR dX2_goOneBar_87 fl_X2_15 rfl (by decide) rfl (by decide) rfl ?_
            refine g_iconst (v := 0) dX2_goOneBar_90 (by decide) ?_
            refine t_iald dX2_goOneBar_91 rfl (by decide) (in_nI (j := 0) (by decide) (by decide)) ?_
            rw [show (0 : Int32).toNatClampNeg = 0 by decide, h9.2.1, hs 0 (by omega)]
            refine t_iast dX2_goOneBar_92 rfl (by decide) (in_nI (by omega) (by decide)) ?_
            refine g_goto (tgt := 202) dX2_goOneBar_93 (by decide) ?_
            refine g_iinc dX2_goOneBar_202 rfl (by decide) ?_
            show Go _ _ _ _ _ _ [_, _, _, _, _, _] _ _ _
            refine g_goto (tgt := 33) dX2_goOneBar_205 (by decide) ?_
            rw [nI_inc]
            refine kk _ ⟨h9.1.up (by decide), h9.2.1, fun q hq => ?_⟩
            rw [cl_nI (by omega), upR_s]
            rcases Nat.lt_or_ge q p with q1 | q1
            · rw [pk_un (by omega)]; exact h9.2.2 q q1
            · rw [show q = p by omega, pk_us]
              first
                | rfl
                | (rw [hm0 (Or.inl rfl)]; rfl)
                | (rw [hm0 (Or.inr rfl)]; rfl)
                | fail "no way"
          · skip
            refine g_tabIn (off := 50) (tgt := 96) dX2_goOneBar_46 (by decide) (by decide) (by decide) (by decide) ?_
            refine g_aload_n dX2_goOneBar_96 rfl ?_
            refine t_getR dX2_goOneBar_97 fl_X2_18 rfl (by decide) rfl (by decide) rfl ?_
            refine g_iload dX2_goOneBar_100 rfl ?_
            refine g_iload_n dX2_goOneBar_102 rfl ?_
            refine t_iast dX2_goOneBar_103 rfl (by decide) (in_nI (by omega) (by decide)) ?_
            refine g_goto (tgt := 202) dX2_goOneBar_104 (by decide) ?_
            refine g_iinc dX2_goOneBar_202 rfl (by decide) ?_
            show Go _ _ _ _ _ _ [_, _, _, _, _, _] _ _ _
            refine g_goto (tgt := 33) dX2_goOneBar_205 (by decide) ?_
            rw [nI_inc]
            refine kk _ ⟨h9.1.up (by decide), h9.2.1, fun q hq => ?_⟩
            rw [cl_nI (by omega), upR_s]
            rcases Nat.lt_or_ge q p with q1 | q1
            · rw [pk_un (by omega)]; exact h9.2.2 q q1
            · rw [show q = p by omega, pk_us]
              first
                | rfl
                | (rw [hm0 (Or.inl rfl)]; rfl)
                | (rw [hm0 (Or.inr rfl)]; rfl)
                | fail "no way"
          · skip
            refine g_tabIn (off := 61) (tgt := 107) dX2_goOneBar_46 (by decide) (by decide) (by decide) (by decide) ?_
            refine g_aload_n dX2_goOneBar_107 rfl ?_
            refine t_getR dX2_goOneBar_108 fl_X2_18 rfl (by decide) rfl (by decide) rfl ?_
            refine g_iload dX2_goOneBar_111 rfl ?_
            refine g_aload_n dX2_goOneBar_113 rfl ?_
            refine t_getR dX2_goOneBar_114 fl_X2_15 rfl (by decide) rfl (by decide) rfl ?_
            refine g_iload dX2_goOneBar_117 rfl ?_
            refine t_iald dX2_goOneBar_119 rfl (by decide) (in_nI (by omega) (by decide)) ?_
            rw [cl_nI (by omega), h9.2.1, hs p hp]
            refine g_aload_n dX2_goOneBar_120 rfl ?_
            refine t_getR dX2_goOneBar_121 fl_X2_15 rfl (by decide) rfl (by decide) rfl ?_
            refine g_iload dX2_goOneBar_124 rfl ?_
            refine g_iconst (v := 1) dX2_goOneBar_126 (by decide) ?_
            refine g_iadd dX2_goOneBar_127 ?_
            rw [show (1 : Int32) = nI 1 from rfl, nI_add]
            refine g_aload_n dX2_goOneBar_128 rfl ?_
            refine t_getR dX2_goOneBar_129 fl_X2_21 rfl (by decide) rfl (by decide) rfl ?_
            refine t_getI dX2_goOneBar_132 fl_X2_33 rfl (by decide) rfl (by decide) ?_
            rw [h9.1 22 (by decide), hn]
            refine g_irem dX2_goOneBar_135 (fun q => by have := (nI_eq (by omega) (by decide)).mp (show nI (n + 1) = nI 0 from q); omega) ?_
            rw [pk_rem (by omega) (by omega) (by omega)]
            refine t_iald dX2_goOneBar_136 rfl (by decide) (in_nI (by omega) (by decide)) ?_
            rw [cl_nI (by omega), h9.2.1, hs ((p + 1) % (n + 1)) hmod]
            refine g_callSi dX2_goOneBar_137 ln_X2_61 ⟨_, rfl⟩ rfl (Nat.le_of_ble_eq_true rfl) (Nat.le_of_ble_eq_true rfl) ct_step rfl (fun r137 m137 h137 => ?_)
            obtain ⟨rfl, rfl⟩ := h137
            refine t_iast dX2_goOneBar_140 rfl (by decide) (in_nI (by omega) (by decide)) ?_
            refine g_goto (tgt := 202) dX2_goOneBar_141 (by decide) ?_
            refine g_iinc dX2_goOneBar_202 rfl (by decide) ?_
            show Go _ _ _ _ _ _ [_, _, _, _, _, _] _ _ _
            refine g_goto (tgt := 33) dX2_goOneBar_205 (by decide) ?_
            rw [nI_inc]
            refine kk _ ⟨h9.1.up (by decide), h9.2.1, fun q hq => ?_⟩
            rw [cl_nI (by omega), upR_s]
            rcases Nat.lt_or_ge q p with q1 | q1
            · rw [pk_un (by omega)]; exact h9.2.2 q q1
            · rw [show q = p by omega, pk_us]
              first
                | rfl
                | (rw [hm0 (Or.inl rfl)]; rfl)
                | (rw [hm0 (Or.inr rfl)]; rfl)
                | fail "no way"
          · skip
            refine g_tabIn (off := 98) (tgt := 144) dX2_goOneBar_46 (by decide) (by decide) (by decide) (by decide) ?_
            refine g_aload_n dX2_goOneBar_144 rfl ?_
            refine t_getR dX2_goOneBar_145 fl_X2_18 rfl (by decide) rfl (by decide) rfl ?_
            refine g_iload dX2_goOneBar_148 rfl ?_
            refine g_aload_n dX2_goOneBar_150 rfl ?_
            refine t_getR dX2_goOneBar_151 fl_X2_15 rfl (by decide) rfl (by decide) rfl ?_
            refine g_iload dX2_goOneBar_154 rfl ?_
            refine t_iald dX2_goOneBar_156 rfl (by decide) (in_nI (by omega) (by decide)) ?_
            rw [cl_nI (by omega), h9.2.1, hs p hp]
            refine g_iload_n dX2_goOneBar_157 rfl ?_
            refine g_callSi dX2_goOneBar_158 ln_X2_61 ⟨_, rfl⟩ rfl (Nat.le_of_ble_eq_true rfl) (Nat.le_of_ble_eq_true rfl) ct_step rfl (fun r158 m158 h158 => ?_)
            obtain ⟨rfl, rfl⟩ := h158
            refine t_iast dX2_goOneBar_161 rfl (by decide) (in_nI (by omega) (by decide)) ?_
            refine g_goto (tgt := 202) dX2_goOneBar_162 (by decide) ?_
            refine g_iinc dX2_goOneBar_202 rfl (by decide) ?_
            show Go _ _ _ _ _ _ [_, _, _, _, _, _] _ _ _
            refine g_goto (tgt := 33) dX2_goOneBar_205 (by decide) ?_
            rw [nI_inc]
            refine kk _ ⟨h9.1.up (by decide), h9.2.1, fun q hq => ?_⟩
            rw [cl_nI (by omega), upR_s]
            rcases Nat.lt_or_ge q p with q1 | q1
            · rw [pk_un (by omega)]; exact h9.2.2 q q1
            · rw [show q = p by omega, pk_us]
              first
                | rfl
                | (rw [hm0 (Or.inl rfl)]; rfl)
                | (rw [hm0 (Or.inr rfl)]; rfl)
                | fail "no way"
          · skip
            refine g_tabIn (off := 119) (tgt := 165) dX2_goOneBar_46 (by decide) (by decide) (by decide) (by decide) ?_
            refine g_aload_n dX2_goOneBar_165 rfl ?_
            refine t_getR dX2_goOneBar_166 fl_X2_18 rfl (by decide) rfl (by decide) rfl ?_
            refine g_iload dX2_goOneBar_169 rfl ?_
            refine g_aload_n dX2_goOneBar_171 rfl ?_
            refine t_getR dX2_goOneBar_172 fl_X2_15 rfl (by decide) rfl (by decide) rfl ?_
            refine g_iload dX2_goOneBar_175 rfl ?_
            refine t_iald dX2_goOneBar_177 rfl (by decide) (in_nI (by omega) (by decide)) ?_
            rw [cl_nI (by omega), h9.2.1, hs p hp]
            refine g_iload_n dX2_goOneBar_178 rfl ?_
            refine g_iload dX2_goOneBar_179 rfl ?_
            refine g_callSi dX2_goOneBar_181 ln_X2_65 ⟨_, rfl⟩ rfl (Nat.le_of_ble_eq_true rfl) (Nat.le_of_ble_eq_true rfl) ct_drawn rfl (fun r181 m181 h181 => ?_)
            obtain ⟨rfl, rfl⟩ := h181
            refine t_iast dX2_goOneBar_184 rfl (by decide) (in_nI (by omega) (by decide)) ?_
            refine g_goto (tgt := 202) dX2_goOneBar_185 (by decide) ?_
            refine g_iinc dX2_goOneBar_202 rfl (by decide) ?_
            show Go _ _ _ _ _ _ [_, _, _, _, _, _] _ _ _
            refine g_goto (tgt := 33) dX2_goOneBar_205 (by decide) ?_
            rw [nI_inc]
            refine kk _ ⟨h9.1.up (by decide), h9.2.1, fun q hq => ?_⟩
            rw [cl_nI (by omega), upR_s]
            rcases Nat.lt_or_ge q p with q1 | q1
            · rw [pk_un (by omega)]; exact h9.2.2 q q1
            · rw [show q = p by omega, pk_us]
              first
                | rfl
                | (rw [hm0 (Or.inl rfl)]; rfl)
                | (rw [hm0 (Or.inr rfl)]; rfl)
                | fail "no way"
      · skip
        refine g_iload dX2_goOneBar_33 rfl ?_
        refine g_aload_n dX2_goOneBar_35 rfl ?_
        refine t_getR dX2_goOneBar_36 fl_X2_21 rfl (by decide) rfl (by decide) rfl ?_
        refine t_getI dX2_goOneBar_39 fl_X2_33 rfl (by decide) rfl (by decide) ?_
        rw [h9.1 22 (by decide), hn]
        refine g_icmp_ge (tgt := 208) dX2_goOneBar_42 (by decide) (fun c42 => ?_) (fun c42 => ?_)
        · skip
          refine g_aload_n dX2_goOneBar_208 rfl ?_
          refine t_getR dX2_goOneBar_209 fl_X2_18 rfl (by decide) rfl (by decide) rfl ?_
          refine g_iconst (v := 0) dX2_goOneBar_212 (by decide) ?_
          refine g_aload_n dX2_goOneBar_213 rfl ?_
          refine t_getR dX2_goOneBar_214 fl_X2_15 rfl (by decide) rfl (by decide) rfl ?_
          refine g_iconst (v := 0) dX2_goOneBar_217 (by decide) ?_
          refine g_aload_n dX2_goOneBar_218 rfl ?_
          refine t_getR dX2_goOneBar_219 fl_X2_15 rfl (by decide) rfl (by decide) rfl ?_
          refine t_alen dX2_goOneBar_222 rfl (by decide) ?_
          refine t_copy dX2_goOneBar_223 ac_X2_69 rfl rfl (by decide) (by decide) (by decide) (by decide) (by decide) (by decide) (by decide) (Nat.le_of_ble_eq_true rfl) ?_
          refine g_vret dX2_goOneBar_226 ?_
          refine ⟨_, rfl, h9.1.up (by decide), fun q hq => ?_⟩
          rw [upR_s]
          unfold va_cpy
          rw [if_pos (by rw [show (0 : Int32).toNatClampNeg = 0 by decide, show (nI 4).toNatClampNeg = 4 by decide]; omega)]
          rw [show (0 : Int32).toNatClampNeg = 0 by decide, Nat.zero_add, Nat.sub_zero]
          exact h9.2.2 q hq
        · exact absurd (Int32.le_refl _) c42
    · skip
      refine g_aload_n dX2_goOneBar_10 rfl ?_
      refine g_callVi dX2_goOneBar_11 ln_X2_51 ⟨_, rfl⟩ rfl (by decide) ⟨_, _, rfl⟩ rfl (Nat.le_of_ble_eq_true rfl) (Nat.le_of_ble_eq_true rfl) (ct_full hn h4 hs) rfl (fun r11 m11 h11 => ?_)
      obtain ⟨rfl, rfl⟩ := h11
      refine g_goto (tgt := 18) dX2_goOneBar_14 (by decide) ?_
      refine t_ist (fun m hm => ?_)
      refine g_istore_n dX2_goOneBar_18 (by decide) ?_
      show Go _ _ _ _ _ _ [_, _, _, _, _, _] _ _ _
      have hm0 : (r = 2 ∨ r = 4) → m = (flF (n + 1) s 5).1 := by
        first
          | exact fun _ => hm
          | exact fun q => q.elim (fun q => absurd (by rw [q]; rfl) c2) (fun q => absurd (by rw [q]; rfl) c7)
          | fail "no way"
      refine g_aload_n dX2_goOneBar_19 rfl ?_
      refine g_callVi dX2_goOneBar_20 ln_X2_55 ⟨_, rfl⟩ rfl (by decide) ⟨_, _, rfl⟩ rfl (Nat.le_of_ble_eq_true rfl) (Nat.le_of_ble_eq_true rfl) (ct_low hn h4 hs) rfl (fun r20 m20 h20 => ?_)
      obtain ⟨rfl, rfl⟩ := h20
      refine g_istore_n dX2_goOneBar_23 (by decide) ?_
      show Go _ _ _ _ _ _ [_, _, _, _, _, _] _ _ _
      refine g_aload_n dX2_goOneBar_24 rfl ?_
      refine g_callVi dX2_goOneBar_25 ln_X2_58 ⟨_, rfl⟩ rfl (by decide) ⟨_, _, rfl⟩ rfl (Nat.le_of_ble_eq_true rfl) (Nat.le_of_ble_eq_true rfl) (ct_high hn h4 hs) rfl (fun r25 m25 h25 => ?_)
      obtain ⟨rfl, rfl⟩ := h25
      refine g_istore dX2_goOneBar_28 (by decide) ?_
      show Go _ _ _ _ _ _ [_, _, _, _, _, _] _ _ _
      refine g_iconst (v := 0) dX2_goOneBar_30 (by decide) ?_
      refine g_istore dX2_goOneBar_31 (by decide) ?_
      show Go _ _ _ _ _ _ [_, _, _, _, _, _] _ _ _
      refine go_mem (fun p I2 => Fr [45, 46] I I2 ∧ I2 45 = I 45 ∧ ∀ q, q < p → I2 46 q = nxS (n + 1) r s q) (n + 1) (fun p I2 => Go X (d + 2) 66 M_X2_goOneBar 66 33 [.ref 43, .int (nI r), .int m, .int (lwF s (n + 1)), .int (hgF s (n + 1)), .int (nI p)] [] (I2, J, rf0) (RV (fun m => ∃ I', m = (I', J, rf0) ∧ Fr [45, 46] I I' ∧ ∀ q, q < n + 1 → I' 45 q = nxS (n + 1) r s q))) (fun p I2 hp h9 kk => ?_) (fun I2 h9 => ?_) _ ⟨Fr.rf, rfl, fun q hq => absurd hq (Nat.not_lt_zero q)⟩
      · have hmod : (p + 1) % (n + 1) < n + 1 := Nat.mod_lt _ (by omega)
        refine g_iload dX2_goOneBar_33 rfl ?_
        refine g_aload_n dX2_goOneBar_35 rfl ?_
        refine t_getR dX2_goOneBar_36 fl_X2_21 rfl (by decide) rfl (by decide) rfl ?_
        refine t_getI dX2_goOneBar_39 fl_X2_33 rfl (by decide) rfl (by decide) ?_
        rw [h9.1 22 (by decide), hn]
        refine g_icmp_ge (tgt := 208) dX2_goOneBar_42 (by decide) (fun c42 => ?_) (fun c42 => ?_)
        · exact absurd (nI_lt hp (by omega)) (Int32.not_lt.mpr c42)
        · skip
          refine g_iload_n dX2_goOneBar_45 rfl ?_
          obtain hr6 : r = 0 ∨ r = 1 ∨ r = 2 ∨ r = 3 ∨ r = 4 ∨ r = 5 := by omega
          rcases hr6 with rfl | rfl | rfl | rfl | rfl | rfl
          · skip
            refine g_tabOut (tgt := 188) dX2_goOneBar_46 (by decide) (by decide) ?_
            refine g_aload_n dX2_goOneBar_188 rfl ?_
            refine t_getR dX2_goOneBar_189 fl_X2_18 rfl (by decide) rfl (by decide) rfl ?_
            refine g_iload dX2_goOneBar_192 rfl ?_
            refine g_aload_n dX2_goOneBar_194 rfl ?_
            refine t_getR dX2_goOneBar_195 fl_X2_15 rfl (by decide) rfl (by decide) rfl ?_
            refine g_iload dX2_goOneBar_198 rfl ?_
            refine t_iald dX2_goOneBar_200 rfl (by decide) (in_nI (by omega) (by decide)) ?_
            rw [cl_nI (by omega), h9.2.1, hs p hp]
            refine t_iast dX2_goOneBar_201 rfl (by decide) (in_nI (by omega) (by decide)) ?_
            refine g_iinc dX2_goOneBar_202 rfl (by decide) ?_
            show Go _ _ _ _ _ _ [_, _, _, _, _, _] _ _ _
            refine g_goto (tgt := 33) dX2_goOneBar_205 (by decide) ?_
            rw [nI_inc]
            refine kk _ ⟨h9.1.up (by decide), h9.2.1, fun q hq => ?_⟩
            rw [cl_nI (by omega), upR_s]
            rcases Nat.lt_or_ge q p with q1 | q1
            · rw [pk_un (by omega)]; exact h9.2.2 q q1
            · rw [show q = p by omega, pk_us]
              first
                | rfl
                | (rw [hm0 (Or.inl rfl)]; rfl)
                | (rw [hm0 (Or.inr rfl)]; rfl)
                | fail "no way"
          · skip
            refine g_tabIn (off := 34) (tgt := 80) dX2_goOneBar_46 (by decide) (by decide) (by decide) (by decide) ?_
            refine g_aload_n dX2_goOneBar_80 rfl ?_
            refine t_getR dX2_goOneBar_81 fl_X2_18 rfl (by decide) rfl (by decide) rfl ?_
            refine g_iload dX2_goOneBar_84 rfl ?_
            refine g_aload_n dX2_goOneBar_86 rfl ?_
            refine t_getR dX2_goOneBar_87 fl_X2_15 rfl (by decide) rfl (by decide) rfl ?_
            refine g_iconst (v := 0) dX2_goOneBar_90 (by decide) ?_
            refine t_iald dX2_goOneBar_91 rfl (by decide) (in_nI (j := 0) (by decide) (by decide)) ?_
            rw [show (0 : Int32).toNatClampNeg = 0 by decide, h9.2.1, hs 0 (by omega)]
            refine t_iast dX2_goOneBar_92 rfl (by decide) (in_nI (by omega) (by decide)) ?_
            refine g_goto (tgt := 202) dX2_goOneBar_93 (by decide) ?_
            refine g_iinc dX2_goOneBar_202 rfl (by decide) ?_
            show Go _ _ _ _ _ _ [_, _, _, _, _, _] _ _ _
            refine g_goto (tgt := 33) dX2_goOneBar_205 (by decide) ?_
            rw [nI_inc]
            refine kk _ ⟨h9.1.up (by decide), h9.2.1, fun q hq => ?_⟩
            rw [cl_nI (by omega), upR_s]
            rcases Nat.lt_or_ge q p with q1 | q1
            · rw [pk_un (by omega)]; exact h9.2.2 q q1
            · rw [show q = p by omega, pk_us]
              first
                | rfl
                | (rw [hm0 (Or.inl rfl)]; rfl)
                | (rw [hm0 (Or.inr rfl)]; rfl)
                | fail "no way"
          · skip
            refine g_tabIn (off := 50) (tgt := 96) dX2_goOneBar_46 (by decide) (by decide) (by decide) (by decide) ?_
            refine g_aload_n dX2_goOneBar_96 rfl ?_
            refine t_getR dX2_goOneBar_97 fl_X2_18 rfl (by decide) rfl (by decide) rfl ?_
            refine g_iload dX2_goOneBar_100 rfl ?_
            refine g_iload_n dX2_goOneBar_102 rfl ?_
            refine t_iast dX2_goOneBar_103 rfl (by decide) (in_nI (by omega) (by decide)) ?_
            refine g_goto (tgt := 202) dX2_goOneBar_104 (by decide) ?_
            refine g_iinc dX2_goOneBar_202 rfl (by decide) ?_
            show Go _ _ _ _ _ _ [_, _, _, _, _, _] _ _ _
            refine g_goto (tgt := 33) dX2_goOneBar_205 (by decide) ?_
            rw [nI_inc]
            refine kk _ ⟨h9.1.up (by decide), h9.2.1, fun q hq => ?_⟩
            rw [cl_nI (by omega), upR_s]
            rcases Nat.lt_or_ge q p with q1 | q1
            · rw [pk_un (by omega)]; exact h9.2.2 q q1
            · rw [show q = p by omega, pk_us]
              first
                | rfl
                | (rw [hm0 (Or.inl rfl)]; rfl)
                | (rw [hm0 (Or.inr rfl)]; rfl)
                | fail "no way"
          · skip
            refine g_tabIn (off := 61) (tgt := 107) dX2_goOneBar_46 (by decide) (by decide) (by decide) (by decide) ?_
            refine g_aload_n dX2_goOneBar_107 rfl ?_
            refine t_getR dX2_goOneBar_108 fl_X2_18 rfl (by decide) rfl (by decide) rfl ?_
            refine g_iload dX2_goOneBar_111 rfl ?_
            refine g_aload_n dX2_goOneBar_113 rfl ?_
            refine t_getR dX2_goOneBar_114 fl_X2_15 rfl (by decide) rfl (by decide) rfl ?_
            refine g_iload dX2_goOneBar_117 rfl ?_
            refine t_iald dX2_goOneBar_119 rfl (by decide) (in_nI (by omega) (by decide)) ?_
            rw [cl_nI (by omega), h9.2.1, hs p hp]
            refine g_aload_n dX2_goOneBar_120 rfl ?_
            refine t_getR dX2_goOneBar_121 fl_X2_15 rfl (by decide) rfl (by decide) rfl ?_
            refine g_iload dX2_goOneBar_124 rfl ?_
            refine g_iconst (v := 1) dX2_goOneBar_126 (by decide) ?_
            refine g_iadd dX2_goOneBar_127 ?_
            rw [show (1 : Int32) = nI 1 from rfl, nI_add]
            refine g_aload_n dX2_goOneBar_128 rfl ?_
            refine t_getR dX2_goOneBar_129 fl_X2_21 rfl (by decide) rfl (by decide) rfl ?_
            refine t_getI dX2_goOneBar_132 fl_X2_33 rfl (by decide) rfl (by decide) ?_
            rw [h9.1 22 (by decide), hn]
            refine g_irem dX2_goOneBar_135 (fun q => by have := (nI_eq (by omega) (by decide)).mp (show nI (n + 1) = nI 0 from q); omega) ?_
            rw [pk_rem (by omega) (by omega) (by omega)]
            refine t_iald dX2_goOneBar_136 rfl (by decide) (in_nI (by omega) (by decide)) ?_
            rw [cl_nI (by omega), h9.2.1, hs ((p + 1) % (n + 1)) hmod]
            refine g_callSi dX2_goOneBar_137 ln_X2_61 ⟨_, rfl⟩ rfl (Nat.le_of_ble_eq_true rfl) (Nat.le_of_ble_eq_true rfl) ct_step rfl (fun r137 m137 h137 => ?_)
            obtain ⟨rfl, rfl⟩ := h137
            refine t_iast dX2_goOneBar_140 rfl (by decide) (in_nI (by omega) (by decide)) ?_
            refine g_goto (tgt := 202) dX2_goOneBar_141 (by decide) ?_
            refine g_iinc dX2_goOneBar_202 rfl (by decide) ?_
            show Go _ _ _ _ _ _ [_, _, _, _, _, _] _ _ _
            refine g_goto (tgt := 33) dX2_goOneBar_205 (by decide) ?_
            rw [nI_inc]
            refine kk _ ⟨h9.1.up (by decide), h9.2.1, fun q hq => ?_⟩
            rw [cl_nI (by omega), upR_s]
            rcases Nat.lt_or_ge q p with q1 | q1
            · rw [pk_un (by omega)]; exact h9.2.2 q q1
            · rw [show q = p by omega, pk_us]
              first
                | rfl
                | (rw [hm0 (Or.inl rfl)]; rfl)
                | (rw [hm0 (Or.inr rfl)]; rfl)
                | fail "no way"
          · skip
            refine g_tabIn (off := 98) (tgt := 144) dX2_goOneBar_46 (by decide) (by decide) (by decide) (by decide) ?_
            refine g_aload_n dX2_goOneBar_144 rfl ?_
            refine t_getR dX2_goOneBar_145 fl_X2_18 rfl (by decide) rfl (by decide) rfl ?_
            refine g_iload dX2_goOneBar_148 rfl ?_
            refine g_aload_n dX2_goOneBar_150 rfl ?_
            refine t_getR dX2_goOneBar_151 fl_X2_15 rfl (by decide) rfl (by decide) rfl ?_
            refine g_iload dX2_goOneBar_154 rfl ?_
            refine t_iald dX2_goOneBar_156 rfl (by decide) (in_nI (by omega) (by decide)) ?_
            rw [cl_nI (by omega), h9.2.1, hs p hp]
            refine g_iload_n dX2_goOneBar_157 rfl ?_
            refine g_callSi dX2_goOneBar_158 ln_X2_61 ⟨_, rfl⟩ rfl (Nat.le_of_ble_eq_true rfl) (Nat.le_of_ble_eq_true rfl) ct_step rfl (fun r158 m158 h158 => ?_)
            obtain ⟨rfl, rfl⟩ := h158
            refine t_iast dX2_goOneBar_161 rfl (by decide) (in_nI (by omega) (by decide)) ?_
            refine g_goto (tgt := 202) dX2_goOneBar_162 (by decide) ?_
            refine g_iinc dX2_goOneBar_202 rfl (by decide) ?_
            show Go _ _ _ _ _ _ [_, _, _, _, _, _] _ _ _
            refine g_goto (tgt := 33) dX2_goOneBar_205 (by decide) ?_
            rw [nI_inc]
            refine kk _ ⟨h9.1.up (by decide), h9.2.1, fun q hq => ?_⟩
            rw [cl_nI (by omega), upR_s]
            rcases Nat.lt_or_ge q p with q1 | q1
            · rw [pk_un (by omega)]; exact h9.2.2 q q1
            · rw [show q = p by omega, pk_us]
              first
                | rfl
                | (rw [hm0 (Or.inl rfl)]; rfl)
                | (rw [hm0 (Or.inr rfl)]; rfl)
                | fail "no way"
          · skip
            refine g_tabIn (off := 119) (tgt := 165) dX2_goOneBar_46 (by decide) (by decide) (by decide) (by decide) ?_
            refine g_aload_n dX2_goOneBar_165 rfl ?_
            refine t_getR dX2_goOneBar_166 fl_X2_18 rfl (by decide) rfl (by decide) rfl ?_
            refine g_iload dX2_goOneBar_169 rfl ?_
            refine g_aload_n dX2_goOneBar_171 rfl ?_
            refine t_getR dX2_goOneBar_172 fl_X2_15 rfl (by decide) rfl (by decide) rfl ?_
            refine g_iload dX2_goOneBar_175 rfl ?_
            refine t_iald dX2_goOneBar_177 rfl (by decide) (in_nI (by omega) (by decide)) ?_
            rw [cl_nI (by omega), h9.2.1, hs p hp]
            refine g_iload_n dX2_goOneBar_178 rfl ?_
            refine g_iload dX2_goOneBar_179 rfl ?_
            refine g_callSi dX2_goOneBar_181 ln_X2_65 ⟨_, rfl⟩ rfl (Nat.le_of_ble_eq_true rfl) (Nat.le_of_ble_eq_true rfl) ct_drawn rfl (fun r181 m181 h181 => ?_)
            obtain ⟨rfl, rfl⟩ := h181
            refine t_iast dX2_goOneBar_184 rfl (by decide) (in_nI (by omega) (by decide)) ?_
            refine g_goto (tgt := 202) dX2_goOneBar_185 (by decide) ?_
            refine g_iinc dX2_goOneBar_202 rfl (by decide) ?_
            show Go _ _ _ _ _ _ [_, _, _, _, _, _] _ _ _
            refine g_goto (tgt := 33) dX2_goOneBar_205 (by decide) ?_
            rw [nI_inc]
            refine kk _ ⟨h9.1.up (by decide), h9.2.1, fun q hq => ?_⟩
            rw [cl_nI (by omega), upR_s]
            rcases Nat.lt_or_ge q p with q1 | q1
            · rw [pk_un (by omega)]; exact h9.2.2 q q1
            · rw [show q = p by omega, pk_us]
              first
                | rfl
                | (rw [hm0 (Or.inl rfl)]; rfl)
                | (rw [hm0 (Or.inr rfl)]; rfl)
                | fail "no way"
      · skip
        refine g_iload dX2_goOneBar_33 rfl ?_
        refine g_aload_n dX2_goOneBar_35 rfl ?_
        refine t_getR dX2_goOneBar_36 fl_X2_21 rfl (by decide) rfl (by decide) rfl ?_
        refine t_getI dX2_goOneBar_39 fl_X2_33 rfl (by decide) rfl (by decide) ?_
        rw [h9.1 22 (by decide), hn]
        refine g_icmp_ge (tgt := 208) dX2_goOneBar_42 (by decide) (fun c42 => ?_) (fun c42 => ?_)
        · skip
          refine g_aload_n dX2_goOneBar_208 rfl ?_
          refine t_getR dX2_goOneBar_209 fl_X2_18 rfl (by decide) rfl (by decide) rfl ?_
          refine g_iconst (v := 0) dX2_goOneBar_212 (by decide) ?_
          refine g_aload_n dX2_goOneBar_213 rfl ?_
          refine t_getR dX2_goOneBar_214 fl_X2_15 rfl (by decide) rfl (by decide) rfl ?_
          refine g_iconst (v := 0) dX2_goOneBar_217 (by decide) ?_
          refine g_aload_n dX2_goOneBar_218 rfl ?_
          refine t_getR dX2_goOneBar_219 fl_X2_15 rfl (by decide) rfl (by decide) rfl ?_
          refine t_alen dX2_goOneBar_222 rfl (by decide) ?_
          refine t_copy dX2_goOneBar_223 ac_X2_69 rfl rfl (by decide) (by decide) (by decide) (by decide) (by decide) (by decide) (by decide) (Nat.le_of_ble_eq_true rfl) ?_
          refine g_vret dX2_goOneBar_226 ?_
          refine ⟨_, rfl, h9.1.up (by decide), fun q hq => ?_⟩
          rw [upR_s]
          unfold va_cpy
          rw [if_pos (by rw [show (0 : Int32).toNatClampNeg = 0 by decide, show (nI 4).toNatClampNeg = 4 by decide]; omega)]
          rw [show (0 : Int32).toNatClampNeg = 0 by decide, Nat.zero_add, Nat.sub_zero]
          exact h9.2.2 q hq
        · exact absurd (Int32.le_refl _) c42
theorem ct_barsFrom {n : Nat} {s : Nat → Int32} {r k : Nat} (hn : I 22 2 = nI (n + 1)) (h4 : n + 1 ≤ 4) (hk1 : shp k = (1, 0, 4)) (hk2 : k < 66) (hk3 : ¬ k = 45) (ho : ∀ q, q < 4 → I k q = s q) (hr : r < 6) : Ct X (d + 3) 66 M_X2_barsFrom 66 [.ref 43, .ref k, .int (nI r)] (I, J, rf0) (RI (fun y9 m => ∃ I', m = (I', J, rf0) ∧ Fr [45, 46] I I' ∧ y9 = oI (wyS (n + 1) r s) ∧ ∀ k, wyS (n + 1) r s = some k → ∀ q, q < n + 1 → I' 45 q = itS (n + 1) r s k q)) := by
  show Go _ _ _ _ _ _ [_, _, _, _] _ _ _
  refine g_iconst (v := 0) dX2_barsFrom_0 (by decide) ?_
  refine g_istore_n dX2_barsFrom_1 (by decide) ?_
  show Go _ _ _ _ _ _ [_, _, _, _] _ _ _
  refine go_mem (fun p I2 => Fr [45] I I2 ∧ ∀ q, q < p → I2 45 q = s q) 4 (fun p I2 => Go X (d + 3) 66 M_X2_barsFrom 66 2 [.ref 43, .ref k, .int (nI r), .int (nI p)] [] (I2, J, rf0) (RI (fun y9 m => ∃ I', m = (I', J, rf0) ∧ Fr [45, 46] I I' ∧ y9 = oI (wyS (n + 1) r s) ∧ ∀ k, wyS (n + 1) r s = some k → ∀ q, q < n + 1 → I' 45 q = itS (n + 1) r s k q))) (fun p I2 hp h8 kk => ?_) (fun I2 h8 => ?_) _ ⟨Fr.rf, fun q hq => absurd hq (Nat.not_lt_zero q)⟩
  · skip
    refine g_iload_n dX2_barsFrom_2 rfl ?_
    refine g_aload_n dX2_barsFrom_3 rfl ?_
    refine t_getR dX2_barsFrom_4 fl_X2_15 rfl (by decide) rfl (by decide) rfl ?_
    refine t_alen dX2_barsFrom_7 rfl (by decide) ?_
    refine g_icmp_ge (tgt := 32) dX2_barsFrom_8 (by decide) (fun c8 => ?_) (fun c8 => ?_)
    · exact absurd (nI_lt hp (by decide)) (Int32.not_lt.mpr c8)
    · skip
      refine g_iload_n dX2_barsFrom_11 rfl ?_
      refine g_aload_n dX2_barsFrom_12 rfl ?_
      refine t_alen dX2_barsFrom_13 hk1 hk2 ?_
      refine g_icmp_ge (tgt := 32) dX2_barsFrom_14 (by decide) (fun c14 => ?_) (fun c14 => ?_)
      · exact absurd (nI_lt hp (by decide)) (Int32.not_lt.mpr c14)
      · skip
        refine g_aload_n dX2_barsFrom_17 rfl ?_
        refine t_getR dX2_barsFrom_18 fl_X2_15 rfl (by decide) rfl (by decide) rfl ?_
        refine g_iload_n dX2_barsFrom_21 rfl ?_
        refine g_aload_n dX2_barsFrom_22 rfl ?_
        refine g_iload_n dX2_barsFrom_23 rfl ?_
        refine t_iald dX2_barsFrom_24 hk1 hk2 (in_nI hp (by decide)) ?_
        rw [cl_nI (by omega), h8.1 k (by simp; exact hk3), ho p hp]
        refine t_iast dX2_barsFrom_25 rfl (by decide) (in_nI hp (by decide)) ?_
        refine g_iinc dX2_barsFrom_26 rfl (by decide) ?_
        show Go _ _ _ _ _ _ [_, _, _, _] _ _ _
        refine g_goto (tgt := 2) dX2_barsFrom_29 (by decide) ?_
        rw [nI_inc, cl_nI (by omega)]
        refine kk _ ⟨h8.1.up (by decide), fun q hq => ?_⟩
        rw [upR_s]
        rcases Nat.lt_or_ge q p with q1 | q1
        · rw [pk_un (by omega)]; exact h8.2 q q1
        · rw [show q = p by omega, pk_us]
  · skip
    refine g_iload_n dX2_barsFrom_2 rfl ?_
    refine g_aload_n dX2_barsFrom_3 rfl ?_
    refine t_getR dX2_barsFrom_4 fl_X2_15 rfl (by decide) rfl (by decide) rfl ?_
    refine t_alen dX2_barsFrom_7 rfl (by decide) ?_
    refine g_icmp_ge (tgt := 32) dX2_barsFrom_8 (by decide) (fun c8 => ?_) (fun c8 => ?_)
    · skip
      refine g_iconst (v := 0) dX2_barsFrom_32 (by decide) ?_
      refine g_istore_n dX2_barsFrom_33 (by decide) ?_
      show Go _ _ _ _ _ _ [_, _, _, _] _ _ _
      refine go_mem (fun b I3 => Fr [45, 46] I I3 ∧ (∀ q, q < n + 1 → I3 45 q = itS (n + 1) r s b q) ∧ ∀ j, j < b → eqP (n + 1) (itS (n + 1) r s j) = false) 21 (fun b I3 => Go X (d + 3) 66 M_X2_barsFrom 66 34 [.ref 43, .ref k, .int (nI r), .int (nI b)] [] (I3, J, rf0) (RI (fun y9 m => ∃ I', m = (I', J, rf0) ∧ Fr [45, 46] I I' ∧ y9 = oI (wyS (n + 1) r s) ∧ ∀ k, wyS (n + 1) r s = some k → ∀ q, q < n + 1 → I' 45 q = itS (n + 1) r s k q))) (fun b I3 hb h9 kk => ?_) (fun I3 h9 => ?_) _ ⟨h8.1.mono (by decide), fun q hq => h8.2 q (by omega), fun q hq => absurd hq (Nat.not_lt_zero q)⟩
      · skip
        refine g_iload_n dX2_barsFrom_34 rfl ?_
        refine g_bipush (v := 20) dX2_barsFrom_35 (by decide) ?_
        refine g_icmp_gt (tgt := 60) dX2_barsFrom_37 (by decide) (fun c37 => ?_) (fun c37 => ?_)
        · exact absurd c37 (Int32.not_lt.mpr (nI_le (show b ≤ 20 by omega) (by decide)))
        · skip
          refine g_aload_n dX2_barsFrom_40 rfl ?_
          refine g_callVi dX2_barsFrom_41 ln_X2_25 ⟨_, rfl⟩ rfl (by decide) ⟨_, _, rfl⟩ rfl (Nat.le_of_ble_eq_true rfl) (Nat.le_of_ble_eq_true rfl) (ct_areAtOne (s := itS (n + 1) r s b) (by rw [h9.1 22 (by decide)]; exact hn) h4 h9.2.1) rfl (fun r41 m41 h41 => ?_)
          obtain ⟨rfl, rfl⟩ := h41
          refine g_if_eq (tgt := 49) dX2_barsFrom_44 (by decide) (fun c44 => ?_) (fun c44 => ?_)
          · skip
            refine g_aload_n dX2_barsFrom_49 rfl ?_
            refine g_iload_n dX2_barsFrom_50 rfl ?_
            refine g_callVv dX2_barsFrom_51 ln_X2_29 rfl rfl (by decide) ⟨_, _, rfl⟩ rfl (Nat.le_of_ble_eq_true rfl) (Nat.le_of_ble_eq_true rfl) (ct_goOneBar (s := itS (n + 1) r s b) (by rw [h9.1 22 (by decide)]; exact hn) h4 h9.2.1 hr) rfl (fun m51 h51 => ?_)
            obtain ⟨I5, rfl, hf5, hs5⟩ := h51
            refine g_iinc dX2_barsFrom_54 rfl (by decide) ?_
            show Go _ _ _ _ _ _ [_, _, _, _] _ _ _
            refine g_goto (tgt := 34) dX2_barsFrom_57 (by decide) ?_
            rw [nI_inc]
            exact kk _ ⟨h9.1.trans hf5, hs5, fun j hj => by
              rcases Nat.lt_or_ge j b with q1 | q1
              · exact h9.2.2 j q1
              · rw [show j = b by omega]; exact bI_eq c44⟩
          · skip
            refine g_iload_n dX2_barsFrom_47 rfl ?_
            refine g_iret dX2_barsFrom_48 (fun ty h => by cases h; rfl) ?_
            have hw : wyS (n + 1) r s = some b := fstN_some (bI_ne c44) h9.2.2 hb
            exact ⟨I3, rfl, h9.1, by rw [hw]; rfl, fun k2 h2 => by rw [hw] at h2; cases h2; exact h9.2.1⟩
      · skip
        refine g_iload_n dX2_barsFrom_34 rfl ?_
        refine g_bipush (v := 20) dX2_barsFrom_35 (by decide) ?_
        refine g_icmp_gt (tgt := 60) dX2_barsFrom_37 (by decide) (fun c37 => ?_) (fun c37 => ?_)
        · skip
          refine g_bipush (v := -9) dX2_barsFrom_60 (by decide) ?_
          refine g_iret dX2_barsFrom_62 (fun ty h => by cases h; rfl) ?_
          have hw : wyS (n + 1) r s = none := fstN_none h9.2.2
          exact ⟨I3, rfl, h9.1, by rw [hw]; rfl, fun k2 h2 => by rw [hw] at h2; cases h2⟩
        · exact absurd (by decide) c37
    · exact absurd (Int32.le_refl _) c8
theorem wy_9 {n r : Nat} {s : Nat → Int32} : oI (wyS n r s) = -9 ↔ wyS n r s = none := by
  constructor
  · intro h
    cases hh : wyS n r s with
    | none => rfl
    | some v =>
      rw [hh] at h
      have hv := (fstN_spec hh).1
      have e := congrArg Int32.toInt (show nI v = -9 from h)
      rw [nI_toInt (by omega), show (-9 : Int32).toInt = -9 by decide] at e
      omega
  · intro h; rw [h]; rfl
theorem ct_countMeeting {n r : Nat} (hn : I 22 2 = nI (n + 1)) (h4 : n + 1 ≤ 4) (hr : r < 6) : Ct X (d + 4) 66 M_X2_countMeeting 66 [.ref 43, .int (nI r)] (I, J, rf0) (RI (fun y9 m => ∃ I', m = (I', J, rf0) ∧ Fr [44, 45, 46] I I' ∧ y9 = nI (mtN (n + 1) r (5 ^ (n + 1))))) := by
  have h5 := p5 h4
  show Go _ _ _ _ _ _ [_, _, _, _, _] _ _ _
  refine g_iconst (v := 0) dX2_countMeeting_0 (by decide) ?_
  refine g_istore_n dX2_countMeeting_1 (by decide) ?_
  show Go _ _ _ _ _ _ [_, _, _, _, _] _ _ _
  refine g_aload_n dX2_countMeeting_2 rfl ?_
  refine t_getR dX2_countMeeting_3 fl_X2_21 rfl (by decide) rfl (by decide) rfl ?_
  refine t_getI dX2_countMeeting_6 fl_X2_33 rfl (by decide) rfl (by decide) ?_
  rw [hn]
  refine g_callSNi dX2_countMeeting_9 ln_X2_39 ⟨_, rfl⟩ rfl (Nat.le_of_ble_eq_true rfl) (Nat.le_of_ble_eq_true rfl) (ct_allOuts h4) rfl (fun r9 m9 h9 => ?_)
  obtain ⟨rfl, rfl⟩ := h9
  refine g_istore_n dX2_countMeeting_12 (by decide) ?_
  show Go _ _ _ _ _ _ [_, _, _, _, _] _ _ _
  refine g_iconst (v := 0) dX2_countMeeting_13 (by decide) ?_
  refine g_istore dX2_countMeeting_14 (by decide) ?_
  show Go _ _ _ _ _ _ [_, _, _, _, _] _ _ _
  refine go_mem (fun c I2 => Fr [44, 45, 46] I I2) (5 ^ (n + 1)) (fun c I2 => Go X (d + 4) 66 M_X2_countMeeting 66 16 [.ref 43, .int (nI r), .int (nI (mtN (n + 1) r c)), .int (nI (5 ^ (n + 1))), .int (nI c)] [] (I2, J, rf0) (RI (fun y9 m => ∃ I', m = (I', J, rf0) ∧ Fr [44, 45, 46] I I' ∧ y9 = nI (mtN (n + 1) r (5 ^ (n + 1)))))) (fun c I2 hc h9 kk => ?_) (fun I2 h9 => ?_) _ Fr.rf
  · skip
    refine g_iload dX2_countMeeting_16 rfl ?_
    refine g_iload_n dX2_countMeeting_18 rfl ?_
    refine g_icmp_ge (tgt := 54) dX2_countMeeting_19 (by decide) (fun c19 => ?_) (fun c19 => ?_)
    · exact absurd (nI_lt hc (by omega)) (Int32.not_lt.mpr c19)
    · skip
      refine g_iload dX2_countMeeting_22 rfl ?_
      refine g_aload_n dX2_countMeeting_24 rfl ?_
      refine t_getR dX2_countMeeting_25 fl_X2_9 rfl (by decide) rfl (by decide) rfl ?_
      refine g_callSNv dX2_countMeeting_28 ln_X2_43 rfl rfl (Nat.le_of_ble_eq_true rfl) (Nat.le_of_ble_eq_true rfl) (ct_spell (c := c) (k := 44) rfl (by decide) (by omega)) rfl (fun m28 h28 => ?_)
      obtain ⟨g, rfl, hg⟩ := h28
      have h9g : Fr [44, 45, 46] I (upR I2 44 g) := h9.up (by decide)
      refine g_aload_n dX2_countMeeting_31 rfl ?_
      refine g_aload_n dX2_countMeeting_32 rfl ?_
      refine t_getR dX2_countMeeting_33 fl_X2_9 rfl (by decide) rfl (by decide) rfl ?_
      refine g_iload_n dX2_countMeeting_36 rfl ?_
      refine g_callVi dX2_countMeeting_37 ln_X2_47 ⟨_, rfl⟩ rfl (by decide) ⟨_, _, rfl⟩ rfl (Nat.le_of_ble_eq_true rfl) (Nat.le_of_ble_eq_true rfl) (ct_barsFrom (s := fun q => zI (oC c q)) (k := 44) (by rw [h9g 22 (by decide)]; exact hn) h4 rfl (by decide) (by decide) (fun q hq => by rw [upR_s]; exact hg q hq) hr) rfl (fun r37 m37 h37 => ?_)
      obtain ⟨I5, rfl, hf5, rfl, -⟩ := h37
      have h95 : Fr [44, 45, 46] I I5 := h9g.trans (hf5.mono (by decide))
      refine g_bipush (v := -9) dX2_countMeeting_40 (by decide) ?_
      refine g_icmp_eq (tgt := 48) dX2_countMeeting_42 (by decide) (fun c42 => ?_) (fun c42 => ?_)
      · skip
        refine g_iinc dX2_countMeeting_48 rfl (by decide) ?_
        show Go _ _ _ _ _ _ [_, _, _, _, _] _ _ _
        refine g_goto (tgt := 16) dX2_countMeeting_51 (by decide) ?_
        rw [show mtN (n + 1) r (c + 1) = if (wyS (n + 1) r (fun q => zI (oC c q))).isSome then mtN (n + 1) r c + 1 else mtN (n + 1) r c from rfl] at kk
        first
          | (rw [wy_9.mp c42] at kk
             rw [nI_inc]
             exact kk _ h95)
          | (rw [if_pos (Option.isSome_iff_ne_none.mpr (fun q => c42 (wy_9.mpr q)))] at kk
             rw [nI_inc, nI_inc]
             exact kk _ h95)
          | fail "no way"
      · skip
        refine g_iinc dX2_countMeeting_45 rfl (by decide) ?_
        show Go _ _ _ _ _ _ [_, _, _, _, _] _ _ _
        refine g_iinc dX2_countMeeting_48 rfl (by decide) ?_
        show Go _ _ _ _ _ _ [_, _, _, _, _] _ _ _
        refine g_goto (tgt := 16) dX2_countMeeting_51 (by decide) ?_
        rw [show mtN (n + 1) r (c + 1) = if (wyS (n + 1) r (fun q => zI (oC c q))).isSome then mtN (n + 1) r c + 1 else mtN (n + 1) r c from rfl] at kk
        first
          | (rw [wy_9.mp c42] at kk
             rw [nI_inc]
             exact kk _ h95)
          | (rw [if_pos (Option.isSome_iff_ne_none.mpr (fun q => c42 (wy_9.mpr q)))] at kk
             rw [nI_inc, nI_inc]
             exact kk _ h95)
          | fail "no way"
  · skip
    refine g_iload dX2_countMeeting_16 rfl ?_
    refine g_iload_n dX2_countMeeting_18 rfl ?_
    refine g_icmp_ge (tgt := 54) dX2_countMeeting_19 (by decide) (fun c19 => ?_) (fun c19 => ?_)
    · skip
      refine g_iload_n dX2_countMeeting_54 rfl ?_
      refine g_iret dX2_countMeeting_55 (fun ty h => by cases h; rfl) ?_
      exact ⟨I2, rfl, h9, rfl⟩
    · exact absurd (Int32.le_refl _) c19
theorem ct_isRule {r : Int32} : Ct X d 66 M_X2_isRule 66 [.ref 43, .int r] (I, J, rf0) (RI (fun y9 m => y9 = bI (inR r 6) ∧ m = (I, J, rf0))) := by
  show Go _ _ _ _ _ _ [_, _] _ _ _
  refine g_iload_n dX2_isRule_0 rfl ?_
  refine g_if_lt (tgt := 14) dX2_isRule_1 (by decide) (fun c1 => ?_) (fun c1 => ?_)
  · skip
    refine g_iconst (v := 0) dX2_isRule_14 (by decide) ?_
    refine g_iret dX2_isRule_15 (fun ty h => by cases h; rfl) ?_
    refine ⟨?_, rfl⟩
    first
      | rw [inR_t (by assumption) (by assumption)]; rfl
      | rw [inR_f0 (by assumption)]; rfl
      | rw [inR_f1 (n := 6) (by assumption)]; rfl
      | fail "no way"
  · skip
    refine g_iload_n dX2_isRule_4 rfl ?_
    refine g_bipush (v := 6) dX2_isRule_5 (by decide) ?_
    refine g_icmp_ge (tgt := 14) dX2_isRule_7 (by decide) (fun c7 => ?_) (fun c7 => ?_)
    · skip
      refine g_iconst (v := 0) dX2_isRule_14 (by decide) ?_
      refine g_iret dX2_isRule_15 (fun ty h => by cases h; rfl) ?_
      refine ⟨?_, rfl⟩
      first
        | rw [inR_t (by assumption) (by assumption)]; rfl
        | rw [inR_f0 (by assumption)]; rfl
        | rw [inR_f1 (n := 6) (by assumption)]; rfl
        | fail "no way"
    · skip
      refine g_iconst (v := 1) dX2_isRule_10 (by decide) ?_
      refine g_goto (tgt := 15) dX2_isRule_11 (by decide) ?_
      refine g_iret dX2_isRule_15 (fun ty h => by cases h; rfl) ?_
      refine ⟨?_, rfl⟩
      first
        | rw [inR_t (by assumption) (by assumption)]; rfl
        | rw [inR_f0 (by assumption)]; rfl
        | rw [inR_f1 (n := 6) (by assumption)]; rfl
        | fail "no way"
theorem ct_spot : Ct X d 66 M_X2_spot 66 [.ref 43] (I, J, rf0) (RI (fun y9 m => y9 = I 45 0 ∧ m = (I, J, rf0))) := by
  show Go _ _ _ _ _ _ [_] _ _ _
  refine g_aload_n dX2_spot_0 rfl ?_
  refine t_getR dX2_spot_1 fl_X2_15 rfl (by decide) rfl (by decide) rfl ?_
  refine g_iconst (v := 0) dX2_spot_4 (by decide) ?_
  refine t_iald dX2_spot_5 rfl (by decide) (in_nI (j := 0) (by decide) (by decide)) ?_
  refine g_iret dX2_spot_6 (fun ty h => by cases h; rfl) ?_
  exact ⟨rfl, rfl⟩
theorem AbsC.g {rw tx : Tab} {P : Pce} {ds : List Deed} {sh : Shf} {tl : Int32} {ch : Int64 × Int64} {fn : Fnd} {I' : Nat → Nat → Int32} (h : AbsC rw tx P ds sh tl ch fn I J) (hf : Fr [44, 45, 46] I I') : AbsC rw tx P ds sh tl ch fn I' J := h.scr (hf.mono (by decide))
theorem FrC.g {I' : Nat → Nat → Int32} (hf : Fr [44, 45, 46] I I') : FrC I I' := FrC.of hf (by decide)
theorem Fr.g {I' : Nat → Nat → Int32} (h : Fr [45, 46] I I') : Fr [44, 45, 46] I I' := h.mono (by decide)
theorem pc_together {rw tx : Tab} {P : Pce} {ds : List Deed} {sh : Shf} {tl : Int32} {ch : Int64 × Int64} {fn : Fnd} {r : Int32} (hA : AbsC rw tx P ds sh tl ch fn I J) (hO : StOK rw tx P ds sh) : Ct X (d + 4) 66 M_X10_together 66 [.ref 0, .int r] (I, J, rf0) (RI (fun y9 m => ∃ I', m = (I', J, rf0) ∧ FrC I I' ∧ y9 = (S_together P ds tl r).1 ∧ AbsC rw tx P ds sh (S_together P ds tl r).2 ch fn I' J)) := by
  have hP := hA.2.2.1
  have hQ := hO.2.2.1
  have h14 := hQ.2.1
  have h4 := hQ.1
  have hou : ∀ q, q < 4 → I 28 q = outS P ds q := hA.2.2.2.1.2.2.2.2.1
  show Go _ _ _ _ _ _ [_, _, _] _ _ _
  refine g_aload_n dX10_together_0 rfl ?_
  refine t_getR dX10_together_1 fl_X10_74 rfl (by decide) rfl (by decide) rfl ?_
  refine g_iload_n dX10_together_4 rfl ?_
  refine g_callVi dX10_together_5 ln_X10_297 ⟨_, rfl⟩ rfl (by decide) ⟨_, _, rfl⟩ rfl (Nat.le_of_ble_eq_true rfl) (Nat.le_of_ble_eq_true rfl) ct_isRule rfl (fun r5 m5 h5 => ?_)
  obtain ⟨rfl, rfl⟩ := h5
  refine g_if_ne (tgt := 13) dX10_together_8 (by decide) (fun c8 => ?_) (fun c8 => ?_)
  · skip
    refine g_aload_n dX10_together_13 rfl ?_
    refine t_getR dX10_together_14 fl_X10_35 rfl (by decide) rfl (by decide) rfl ?_
    refine g_callVi dX10_together_17 ln_X10_215 ⟨_, rfl⟩ rfl (by decide) ⟨_, _, rfl⟩ rfl (Nat.le_of_ble_eq_true rfl) (Nat.le_of_ble_eq_true rfl) (ct_isEmpty hP hQ) rfl (fun r17 m17 h17 => ?_)
    obtain ⟨rfl, rfl⟩ := h17
    refine g_if_eq (tgt := 26) dX10_together_20 (by decide) (fun c20 => ?_) (fun c20 => ?_)
    · skip
      have q1 := bI_ne c8
      obtain ⟨r, hr, rfl⟩ := inR_ix (by decide) q1
      have hne : ¬ P.2.1 = 0 := of_decide_eq_false (bI_eq c20)
      have h2 : 2 ≤ P.1 := (hQ.2.2.1).resolve_left hne
      obtain ⟨n, hn1⟩ : ∃ n, P.1 = n + 1 := ⟨P.1 - 1, by omega⟩
      have hn : I 22 2 = nI (n + 1) := by rw [hP.1, hn1]
      have h4n : n + 1 ≤ 4 := by omega
      refine g_aload_n dX10_together_26 rfl ?_
      refine t_getR dX10_together_27 fl_X10_74 rfl (by decide) rfl (by decide) rfl ?_
      refine g_aload_n dX10_together_30 rfl ?_
      refine t_getR dX10_together_31 fl_X10_44 rfl (by decide) rfl (by decide) rfl ?_
      refine t_getR dX10_together_34 fl_X10_221 rfl (by decide) rfl (by decide) rfl ?_
      refine g_iload_n dX10_together_37 rfl ?_
      refine g_callVi dX10_together_38 ln_X10_300 ⟨_, rfl⟩ rfl (by decide) ⟨_, _, rfl⟩ rfl (Nat.le_of_ble_eq_true rfl) (Nat.le_of_ble_eq_true rfl) (ct_barsFrom (s := outS P ds) (k := 28) hn h4n rfl (by decide) (by decide) hou hr) rfl (fun r38 m38 h38 => ?_)
      obtain ⟨I1, rfl, hf1, rfl, hat⟩ := h38
      rw [← hn1] at hat
      rw [← hn1]
      refine g_istore_n dX10_together_41 (by decide) ?_
      show Go _ _ _ _ _ _ [_, _, _] _ _ _
      refine g_iload_n dX10_together_42 rfl ?_
      refine g_bipush (v := -9) dX10_together_43 (by decide) ?_
      refine g_icmp_ne (tgt := 51) dX10_together_45 (by decide) (fun c45 => ?_) (fun c45 => ?_)
      · skip
        refine g_aload_n dX10_together_51 rfl ?_
        refine g_aload_n dX10_together_52 rfl ?_
        refine t_getR dX10_together_53 fl_X10_74 rfl (by decide) rfl (by decide) rfl ?_
        refine g_callVi dX10_together_56 ln_X10_304 ⟨_, rfl⟩ rfl (by decide) ⟨_, _, rfl⟩ rfl (Nat.le_of_ble_eq_true rfl) (Nat.le_of_ble_eq_true rfl) ct_spot rfl (fun r56 m56 h56 => ?_)
        obtain ⟨rfl, rfl⟩ := h56
        refine g_iconst (v := 2) dX10_together_59 (by decide) ?_
        refine g_iadd dX10_together_60 ?_
        refine t_putI dX10_together_61 fl_X10_111 rfl (by decide) rfl (by decide) ?_
        refine g_iload_n dX10_together_64 rfl ?_
        refine g_iret dX10_together_65 (fun ty h => by cases h; rfl) ?_
        cases hw : wyS P.1 r (outS P ds) with
        | none => exact absurd (wy_9.mpr hw) c45
        | some k =>
          have hS : S_together P ds tl (nI r) = (nI k, itS P.1 r (outS P ds) k 0 + 2) := by unfold S_together; rw [q1, if_neg hne, cl_nI (by omega), hw]; rfl
          refine ⟨_, rfl, (FrC.g hf1.g).up (by decide), by rw [hS]; rfl, ?_⟩
          rw [hS, hat k hw 0 (by omega)]
          exact (hA.g hf1.g).told
      · skip
        refine g_bipush (v := -9) dX10_together_48 (by decide) ?_
        refine g_iret dX10_together_50 (fun ty h => by cases h; rfl) ?_
        have hS : S_together P ds tl (nI r) = (-9, tl) := by unfold S_together; rw [q1, if_neg hne, cl_nI (by omega), wy_9.mp c45]; rfl
        exact ⟨_, rfl, FrC.g hf1.g, by rw [hS], by rw [hS]; exact hA.g hf1.g⟩
    · skip
      refine g_bipush (v := -4) dX10_together_23 (by decide) ?_
      refine g_iret dX10_together_25 (fun ty h => by cases h; rfl) ?_
      have hS : S_together P ds tl r = (-4, tl) := by unfold S_together; rw [bI_ne c8, if_pos (of_decide_eq_true (bI_ne c20))]; rfl
      exact ⟨_, rfl, FrC.rf, by rw [hS], by rw [hS]; exact hA⟩
  · skip
    refine g_iconst (v := -1) dX10_together_11 (by decide) ?_
    refine g_iret dX10_together_12 (fun ty h => by cases h; rfl) ?_
    have hS : S_together P ds tl r = (-1, tl) := by unfold S_together; rw [bI_eq c8]; rfl
    exact ⟨_, rfl, FrC.rf, by rw [hS], by rw [hS]; exact hA⟩
def ruA (o : Option (Nat × Nat)) : Int32 := match o with
  | none => -9
  | some b => nI b.1
def ruB (o : Option (Nat × Nat)) : Int32 := match o with
  | none => 21
  | some b => nI b.2
theorem ru_b {n : Nat} {s : Nat → Int32} : ∀ {r : Nat} {b : Nat × Nat}, ruF n s r = some b → b.1 < r ∧ b.2 < 21
  | 0, b, h => by cases h
  | r + 1, b, h => by
    rw [ruF_s] at h
    unfold ruT at h
    cases hw : wyS n r s with
    | none =>
      rw [hw] at h
      have := ru_b (r := r) h
      omega
    | some k =>
      have hk := (fstN_spec hw).1
      rw [hw] at h
      cases hf : ruF n s r with
      | none => rw [hf] at h; cases h; exact ⟨Nat.lt_succ_self r, hk⟩
      | some c =>
        rw [hf] at h
        dsimp only at h
        split at h
        · cases h; exact ⟨Nat.lt_succ_self r, hk⟩
        · cases h; have := ru_b hf; omega
theorem ru_no {n : Nat} {s : Nat → Int32} {r : Nat} (h : wyS n r s = none) : ruF n s (r + 1) = ruF n s r := by
  rw [ruF_s]
  unfold ruT
  rw [h]
theorem ru_lt {n : Nat} {s : Nat → Int32} {r k : Nat} (h : wyS n r s = some k) (hl : nI k < ruB (ruF n s r)) : ruF n s (r + 1) = some (r, k) := by
  have hk := (fstN_spec h).1
  rw [ruF_s]
  unfold ruT
  rw [h]
  cases hf : ruF n s r with
  | none => rfl
  | some c =>
    rw [hf] at hl
    have hc := ru_b hf
    exact if_pos ((nI_ltI (by omega) (by omega)).mp hl)
theorem ru_ge {n : Nat} {s : Nat → Int32} {r k : Nat} (h : wyS n r s = some k) (hl : ¬ nI k < ruB (ruF n s r)) : ruF n s (r + 1) = ruF n s r := by
  have hk := (fstN_spec h).1
  rw [ruF_s]
  unfold ruT
  rw [h]
  cases hf : ruF n s r with
  | none => rw [hf] at hl; exact absurd (nI_lt (show k < 21 from hk) (by decide)) hl
  | some c =>
    rw [hf] at hl
    have hc := ru_b hf
    exact if_neg (fun q => hl (nI_lt q (by omega)))
theorem ru_9 {n : Nat} {s : Nat → Int32} {r : Nat} (hr : r < 100) : ruA (ruF n s r) = -9 ↔ ruF n s r = none := by
  constructor
  · intro h
    cases hh : ruF n s r with
    | none => rfl
    | some v =>
      rw [hh] at h
      have hv := ru_b hh
      have e := congrArg Int32.toInt (show nI v.1 = -9 from h)
      rw [nI_toInt (by omega), show (-9 : Int32).toInt = -9 by decide] at e
      omega
  · intro h; rw [h]; rfl
theorem pc_rule {rw tx : Tab} {P : Pce} {ds : List Deed} {sh : Shf} {tl : Int32} {ch : Int64 × Int64} {fn : Fnd} (hA : AbsC rw tx P ds sh tl ch fn I J) (hO : StOK rw tx P ds sh) : Ct X (d + 4) 66 M_X10_rule 66 [.ref 0] (I, J, rf0) (RI (fun y9 m => ∃ I', m = (I', J, rf0) ∧ FrC I I' ∧ y9 = (S_rule P ds tl).1 ∧ AbsC rw tx P ds sh (S_rule P ds tl).2 ch fn I' J)) := by
  have hP := hA.2.2.1
  have hQ := hO.2.2.1
  have h14 := hQ.2.1
  have h4 := hQ.1
  have hou : ∀ q, q < 4 → I 28 q = outS P ds q := hA.2.2.2.1.2.2.2.2.1
  show Go _ _ _ _ _ _ [_, _, _, _, _] _ _ _
  refine g_aload_n dX10_rule_0 rfl ?_
  refine t_getR dX10_rule_1 fl_X10_35 rfl (by decide) rfl (by decide) rfl ?_
  refine g_callVi dX10_rule_4 ln_X10_215 ⟨_, rfl⟩ rfl (by decide) ⟨_, _, rfl⟩ rfl (Nat.le_of_ble_eq_true rfl) (Nat.le_of_ble_eq_true rfl) (ct_isEmpty hP hQ) rfl (fun r4 m4 h4 => ?_)
  obtain ⟨rfl, rfl⟩ := h4
  refine g_if_eq (tgt := 13) dX10_rule_7 (by decide) (fun c7 => ?_) (fun c7 => ?_)
  · skip
    have hne : ¬ P.2.1 = 0 := of_decide_eq_false (bI_eq c7)
    have h2 : 2 ≤ P.1 := (hQ.2.2.1).resolve_left hne
    obtain ⟨n, hn1⟩ : ∃ n, P.1 = n + 1 := ⟨P.1 - 1, by omega⟩
    have hn : I 22 2 = nI (n + 1) := by rw [hP.1, hn1]
    have h4n : n + 1 ≤ 4 := by omega
    refine g_bipush (v := -9) dX10_rule_13 (by decide) ?_
    refine g_istore_n dX10_rule_15 (by decide) ?_
    show Go _ _ _ _ _ _ [_, _, _, _, _] _ _ _
    refine g_bipush (v := 21) dX10_rule_16 (by decide) ?_
    refine g_istore_n dX10_rule_18 (by decide) ?_
    show Go _ _ _ _ _ _ [_, _, _, _, _] _ _ _
    refine g_iconst (v := 0) dX10_rule_19 (by decide) ?_
    refine g_istore_n dX10_rule_20 (by decide) ?_
    show Go _ _ _ _ _ _ [_, _, _, _, _] _ _ _
    refine go_mem (fun r I2 => Fr [45, 46] I I2) 6 (fun r I2 => Go X (d + 4) 66 M_X10_rule 66 21 [.ref 0, .int (ruA (ruF P.1 (outS P ds) r)), .int (ruB (ruF P.1 (outS P ds) r)), .int (nI r), .null] [] (I2, J, rf0) (RI (fun y9 m => ∃ I', m = (I', J, rf0) ∧ FrC I I' ∧ y9 = (S_rule P ds tl).1 ∧ AbsC rw tx P ds sh (S_rule P ds tl).2 ch fn I' J))) (fun r I2 hr h9 kk => ?_) (fun I2 h9 => ?_) _ Fr.rf
    · skip
      refine g_iload_n dX10_rule_21 rfl ?_
      refine g_bipush (v := 6) dX10_rule_22 (by decide) ?_
      refine g_icmp_ge (tgt := 68) dX10_rule_24 (by decide) (fun c24 => ?_) (fun c24 => ?_)
      · exact absurd (nI_lt hr (by decide)) (Int32.not_lt.mpr c24)
      · skip
        refine g_aload_n dX10_rule_27 rfl ?_
        refine t_getR dX10_rule_28 fl_X10_74 rfl (by decide) rfl (by decide) rfl ?_
        refine g_aload_n dX10_rule_31 rfl ?_
        refine t_getR dX10_rule_32 fl_X10_44 rfl (by decide) rfl (by decide) rfl ?_
        refine t_getR dX10_rule_35 fl_X10_221 rfl (by decide) rfl (by decide) rfl ?_
        refine g_iload_n dX10_rule_38 rfl ?_
        refine g_callVi dX10_rule_39 ln_X10_300 ⟨_, rfl⟩ rfl (by decide) ⟨_, _, rfl⟩ rfl (Nat.le_of_ble_eq_true rfl) (Nat.le_of_ble_eq_true rfl) (ct_barsFrom (s := outS P ds) (r := r) (k := 28) (by rw [h9 22 (by decide)]; exact hn) h4n rfl (by decide) (by decide) (fun q hq => by rw [h9 28 (by decide)]; exact hou q hq) hr) rfl (fun r39 m39 h39 => ?_)
        obtain ⟨I3, rfl, hf3, rfl, -⟩ := h39
        rw [← hn1]
        refine g_istore dX10_rule_42 (by decide) ?_
        show Go _ _ _ _ _ _ [_, _, _, _, _] _ _ _
        refine g_iload dX10_rule_44 rfl ?_
        refine g_bipush (v := -9) dX10_rule_46 (by decide) ?_
        refine g_icmp_eq (tgt := 62) dX10_rule_48 (by decide) (fun c48 => ?_) (fun c48 => ?_)
        · skip
          refine g_iinc dX10_rule_62 rfl (by decide) ?_
          show Go _ _ _ _ _ _ [_, _, _, _, _] _ _ _
          refine g_goto (tgt := 21) dX10_rule_65 (by decide) ?_
          refine g_forget 4 ?_
          show Go _ _ _ _ _ _ [_, _, _, _, _] _ _ _
          rw [nI_inc]
          first
            | (rw [ru_no (wy_9.mp c48)] at kk
               exact kk _ (h9.trans hf3))
            | (cases hw : wyS P.1 r (outS P ds) with
               | none => exact absurd (wy_9.mpr hw) c48
               | some k =>
                 rw [hw] at c54
                 first
                   | (rw [ru_lt hw (Int32.not_le.mp c54)] at kk
                      exact kk _ (h9.trans hf3))
                   | (rw [ru_ge hw (Int32.not_lt.mpr c54)] at kk
                      exact kk _ (h9.trans hf3)))
            | fail "no way"
        · skip
          refine g_iload dX10_rule_51 rfl ?_
          refine g_iload_n dX10_rule_53 rfl ?_
          refine g_icmp_ge (tgt := 62) dX10_rule_54 (by decide) (fun c54 => ?_) (fun c54 => ?_)
          · skip
            refine g_iinc dX10_rule_62 rfl (by decide) ?_
            show Go _ _ _ _ _ _ [_, _, _, _, _] _ _ _
            refine g_goto (tgt := 21) dX10_rule_65 (by decide) ?_
            refine g_forget 4 ?_
            show Go _ _ _ _ _ _ [_, _, _, _, _] _ _ _
            rw [nI_inc]
            first
              | (rw [ru_no (wy_9.mp c48)] at kk
                 exact kk _ (h9.trans hf3))
              | (cases hw : wyS P.1 r (outS P ds) with
                 | none => exact absurd (wy_9.mpr hw) c48
                 | some k =>
                   rw [hw] at c54
                   first
                     | (rw [ru_lt hw (Int32.not_le.mp c54)] at kk
                        exact kk _ (h9.trans hf3))
                     | (rw [ru_ge hw (Int32.not_lt.mpr c54)] at kk
                        exact kk _ (h9.trans hf3)))
              | fail "no way"
          · skip
            refine g_iload dX10_rule_57 rfl ?_
            refine g_istore_n dX10_rule_59 (by decide) ?_
            show Go _ _ _ _ _ _ [_, _, _, _, _] _ _ _
            refine g_iload_n dX10_rule_60 rfl ?_
            refine g_istore_n dX10_rule_61 (by decide) ?_
            show Go _ _ _ _ _ _ [_, _, _, _, _] _ _ _
            refine g_iinc dX10_rule_62 rfl (by decide) ?_
            show Go _ _ _ _ _ _ [_, _, _, _, _] _ _ _
            refine g_goto (tgt := 21) dX10_rule_65 (by decide) ?_
            refine g_forget 4 ?_
            show Go _ _ _ _ _ _ [_, _, _, _, _] _ _ _
            rw [nI_inc]
            first
              | (rw [ru_no (wy_9.mp c48)] at kk
                 exact kk _ (h9.trans hf3))
              | (cases hw : wyS P.1 r (outS P ds) with
                 | none => exact absurd (wy_9.mpr hw) c48
                 | some k =>
                   rw [hw] at c54
                   first
                     | (rw [ru_lt hw (Int32.not_le.mp c54)] at kk
                        exact kk _ (h9.trans hf3))
                     | (rw [ru_ge hw (Int32.not_lt.mpr c54)] at kk
                        exact kk _ (h9.trans hf3)))
              | fail "no way"
    · skip
      refine g_iload_n dX10_rule_21 rfl ?_
      refine g_bipush (v := 6) dX10_rule_22 (by decide) ?_
      refine g_icmp_ge (tgt := 68) dX10_rule_24 (by decide) (fun c24 => ?_) (fun c24 => ?_)
      · skip
        refine g_iload_n dX10_rule_68 rfl ?_
        refine g_bipush (v := -9) dX10_rule_69 (by decide) ?_
        refine g_icmp_ne (tgt := 77) dX10_rule_71 (by decide) (fun c71 => ?_) (fun c71 => ?_)
        · skip
          refine g_aload_n dX10_rule_77 rfl ?_
          refine g_iload_n dX10_rule_78 rfl ?_
          refine t_putI dX10_rule_79 fl_X10_111 rfl (by decide) rfl (by decide) ?_
          refine g_iload_n dX10_rule_82 rfl ?_
          refine g_iret dX10_rule_83 (fun ty h => by cases h; rfl) ?_
          cases hw : ruF P.1 (outS P ds) 6 with
          | none => exact absurd ((ru_9 (by decide)).mpr hw) c71
          | some b =>
            have hS : S_rule P ds tl = (nI b.1, nI b.2) := by unfold S_rule; rw [if_neg hne, hw]
            exact ⟨_, rfl, (FrC.g h9.g).up (by decide), by rw [hS]; rfl, by rw [hS]; exact (hA.g h9.g).told⟩
        · skip
          refine g_bipush (v := -9) dX10_rule_74 (by decide) ?_
          refine g_iret dX10_rule_76 (fun ty h => by cases h; rfl) ?_
          have hS : S_rule P ds tl = (-9, tl) := by unfold S_rule; rw [if_neg hne, (ru_9 (by decide)).mp c71]
          exact ⟨_, rfl, FrC.g h9.g, by rw [hS], by rw [hS]; exact hA.g h9.g⟩
      · exact absurd (by decide) c24
  · skip
    refine g_bipush (v := -4) dX10_rule_10 (by decide) ?_
    refine g_iret dX10_rule_12 (fun ty h => by cases h; rfl) ?_
    have hS : S_rule P ds tl = (-4, tl) := by unfold S_rule; rw [if_pos (of_decide_eq_true (bI_ne c7))]
    exact ⟨_, rfl, FrC.rf, by rw [hS], by rw [hS]; exact hA⟩
theorem pc_signs {rw tx : Tab} {P : Pce} {ds : List Deed} {sh : Shf} {tl : Int32} {ch : Int64 × Int64} {fn : Fnd} {r : Int32} (hA : AbsC rw tx P ds sh tl ch fn I J) (hO : StOK rw tx P ds sh) : Ct X (d + 5) 66 M_X10_signs 66 [.ref 0, .int r] (I, J, rf0) (RI (fun y9 m => ∃ I', m = (I', J, rf0) ∧ FrC I I' ∧ y9 = S_signs P r ∧ AbsC rw tx P ds sh tl ch fn I' J)) := by
  have hP := hA.2.2.1
  have hQ := hO.2.2.1
  have h14 := hQ.2.1
  have h4 := hQ.1
  have hou : ∀ q, q < 4 → I 28 q = outS P ds q := hA.2.2.2.1.2.2.2.2.1
  show Go _ _ _ _ _ _ [_, _] _ _ _
  refine g_aload_n dX10_signs_0 rfl ?_
  refine t_getR dX10_signs_1 fl_X10_74 rfl (by decide) rfl (by decide) rfl ?_
  refine g_iload_n dX10_signs_4 rfl ?_
  refine g_callVi dX10_signs_5 ln_X10_297 ⟨_, rfl⟩ rfl (by decide) ⟨_, _, rfl⟩ rfl (Nat.le_of_ble_eq_true rfl) (Nat.le_of_ble_eq_true rfl) ct_isRule rfl (fun r5 m5 h5 => ?_)
  obtain ⟨rfl, rfl⟩ := h5
  refine g_if_ne (tgt := 13) dX10_signs_8 (by decide) (fun c8 => ?_) (fun c8 => ?_)
  · skip
    refine g_aload_n dX10_signs_13 rfl ?_
    refine t_getR dX10_signs_14 fl_X10_35 rfl (by decide) rfl (by decide) rfl ?_
    refine g_callVi dX10_signs_17 ln_X10_215 ⟨_, rfl⟩ rfl (by decide) ⟨_, _, rfl⟩ rfl (Nat.le_of_ble_eq_true rfl) (Nat.le_of_ble_eq_true rfl) (ct_isEmpty hP hQ) rfl (fun r17 m17 h17 => ?_)
    obtain ⟨rfl, rfl⟩ := h17
    refine g_if_eq (tgt := 26) dX10_signs_20 (by decide) (fun c20 => ?_) (fun c20 => ?_)
    · skip
      have q1 := bI_ne c8
      obtain ⟨r, hr, rfl⟩ := inR_ix (by decide) q1
      have hne : ¬ P.2.1 = 0 := of_decide_eq_false (bI_eq c20)
      have h2 : 2 ≤ P.1 := (hQ.2.2.1).resolve_left hne
      obtain ⟨n, hn1⟩ : ∃ n, P.1 = n + 1 := ⟨P.1 - 1, by omega⟩
      have hn : I 22 2 = nI (n + 1) := by rw [hP.1, hn1]
      have h4n : n + 1 ≤ 4 := by omega
      refine g_aload_n dX10_signs_26 rfl ?_
      refine t_getR dX10_signs_27 fl_X10_74 rfl (by decide) rfl (by decide) rfl ?_
      refine g_iload_n dX10_signs_30 rfl ?_
      refine g_callVi dX10_signs_31 ln_X10_307 ⟨_, rfl⟩ rfl (by decide) ⟨_, _, rfl⟩ rfl (Nat.le_of_ble_eq_true rfl) (Nat.le_of_ble_eq_true rfl) (ct_countMeeting hn h4n hr) rfl (fun r31 m31 h31 => ?_)
      obtain ⟨I1, rfl, hf1, rfl⟩ := h31
      refine g_iret dX10_signs_34 (fun ty h => by cases h; rfl) ?_
      exact ⟨I1, rfl, FrC.g hf1, by unfold S_signs; rw [q1, if_neg hne, cl_nI (by omega), hn1]; rfl, hA.g hf1⟩
    · skip
      refine g_bipush (v := -4) dX10_signs_23 (by decide) ?_
      refine g_iret dX10_signs_25 (fun ty h => by cases h; rfl) ?_
      exact ⟨_, rfl, FrC.rf, by unfold S_signs; rw [bI_ne c8, if_pos (of_decide_eq_true (bI_ne c20))]; rfl, hA⟩
  · skip
    refine g_iconst (v := -1) dX10_signs_11 (by decide) ?_
    refine g_iret dX10_signs_12 (fun ty h => by cases h; rfl) ?_
    exact ⟨_, rfl, FrC.rf, by unfold S_signs; rw [bI_eq c8]; rfl, hA⟩
end
