section
variable {X : Nat × (Nat → Int32)} {d : Nat} {I : Nat → Nat → Int32} {J : Nat → Nat → Int64}
/-! ===== numbers that may be below 0 ===== -/
theorem nI_z (n : Nat) : nI n = zI (n : Int) := by
  apply Int32.toBitVec_inj.mp
  show BitVec.ofNat 32 n = BitVec.ofInt 32 (n : Int)
  exact (BitVec.ofInt_natCast (w := 32) n).symm
theorem z_add (a b : Int) : zI a + zI b = zI (a + b) := (Int32.ofInt_add a b).symm
theorem z_sub (a b : Int) : zI a - zI b = zI (a - b) := (Int32.ofInt_sub a b).symm
theorem z_mul (a b : Int) : zI a * zI b = zI (a * b) := (Int32.ofInt_mul a b).symm
theorem z_int {a : Int} (h : -2147483648 ≤ a ∧ a < 2147483648) : (zI a).toInt = a := by
  show (Int32.ofInt a).toInt = a
  rw [Int32.toInt_ofInt, show Int32.size = 4294967296 from rfl]
  apply Int.bmod_eq_of_le <;> omega
theorem z_lt {a b : Int} (ha : -2147483648 ≤ a ∧ a < 2147483648) (hb : -2147483648 ≤ b ∧ b < 2147483648) : zI a < zI b ↔ a < b := by rw [Int32.lt_iff_toInt_lt, z_int ha, z_int hb]
theorem z_le {a b : Int} (ha : -2147483648 ≤ a ∧ a < 2147483648) (hb : -2147483648 ≤ b ∧ b < 2147483648) : zI a ≤ zI b ↔ a ≤ b := by rw [Int32.le_iff_toInt_le, z_int ha, z_int hb]
theorem z_eq {a b : Int} (ha : -2147483648 ≤ a ∧ a < 2147483648) (hb : -2147483648 ≤ b ∧ b < 2147483648) : zI a = zI b ↔ a = b := by rw [← Int32.toInt_inj, z_int ha, z_int hb]
theorem z_0 : (0 : Int32) = zI 0 := rfl
theorem z_m1 : (-1 : Int32) = zI (-1) := by decide
theorem z_nat {a : Int} (h : 0 ≤ a) : zI a = nI a.toNat := by rw [nI_z, Int.toNat_of_nonneg h]
theorem shl1 : ∀ p, p < 31 → (1 : Int32) <<< (nI p &&& 31) = nI (2 ^ p) := by decide
theorem or_nI (a b : Nat) : nI a ||| nI b = nI (a ||| b) := by
  apply Int32.toBitVec_inj.mp
  show BitVec.ofNat 32 a ||| BitVec.ofNat 32 b = BitVec.ofNat 32 (a ||| b)
  exact BitVec.ofNat_or.symm
theorem orbit {a p : Nat} (h : p < 31) : nI a ||| ((1 : Int32) <<< (nI p &&& 31)) = nI (a ||| 2 ^ p) := by rw [shl1 p h, or_nI]
theorem ix4 (x p : Nat) : nI x * (4 : Int32) + nI p = nI (4 * x + p) := by rw [show (4 : Int32) = nI 4 from rfl, pk_mul, nI_add, Nat.mul_comm]
theorem cls_0 {a b : Int} : clsB 0 a b = (decide (0 ≤ a) && (decide (0 ≤ b) && decide (a - b = 1 ∨ b - a = 1 ∨ a - b = 6 ∨ b - a = 6))) := rfl
theorem cls_13 {k : Nat} {a b : Int} (h : k = 1 ∨ k = 3) : clsB k a b = (decide (0 ≤ a) && (decide (0 ≤ b) && decide (a ≠ b))) := by rcases h with rfl | rfl <;> rfl
theorem cls_5 {a b : Int} : clsB 5 a b = (decide (0 ≤ a) && (decide (0 ≤ b) && decide (a - b = 1 ∨ b - a = 1))) := rfl
theorem cls_24 {k : Nat} {a b : Int} (h : k = 2 ∨ k = 4) : clsB k a b = false := by
  rcases h with rfl | rfl
  · show (decide (0 ≤ a) && (decide (0 ≤ b) && false)) = false
    rw [Bool.and_false, Bool.and_false]
  · show (decide (0 ≤ a) && (decide (0 ≤ b) && false)) = false
    rw [Bool.and_false, Bool.and_false]
theorem sndS_rng (P : Pce) (hP : PcOK P) (p : Nat) (z : Int) : -1 ≤ sndS P p z ∧ sndS P p z ≤ 7 := by
  unfold sndS
  split
  · split <;> omega
  · omega
theorem prIn_snd (c : Nat → Bool) (a : Nat) (s : Nat × Nat) : ∀ n, (prIn c a n s).2 = s.2 + n
  | 0 => rfl
  | n + 1 => by
    show (prIn c a n s).2 + 1 = _
    rw [prIn_snd c a s n]; omega
theorem prs_snd (np : Nat) (c : Nat → Nat → Bool) (h : np ≤ 4) : ∀ a, (foldN (fun a s => prIn (c a) a (np - (a + 1)) s) (0, 0) a).2 ≤ 4 * a
  | 0 => Nat.le_refl _
  | a + 1 => by
    have := prs_snd np c h a
    show (prIn (c a) a (np - (a + 1)) (foldN (fun a s => prIn (c a) a (np - (a + 1)) s) (0, 0) a)).2 ≤ _
    rw [prIn_snd]; omega
theorem prIn_no (a : Nat) (s : Nat × Nat) : ∀ n, (prIn (fun _ => false) a n s).1 = s.1
  | 0 => rfl
  | n + 1 => prIn_no a s n
theorem prs_no (np : Nat) : ∀ a, (foldN (fun a s => prIn ((fun _ _ => false : Nat → Nat → Bool) a) a (np - (a + 1)) s) (0, 0) a).1 = 0
  | 0 => rfl
  | a + 1 => (prIn_no a _ _).trans (prs_no np a)
theorem hrK_no {P : Pce} {k : Nat} {o : Nat → Int} {x : Nat} (h : k = 2 ∨ k = 4) : hrK P k o x = 0 := by
  unfold hrK prs
  have e : (fun a b => clsB k (sndS P a (x + o a)) (sndS P b (x + o b))) = (fun _ _ => false : Nat → Nat → Bool) := by
    funext a b
    unfold clsB
    rcases h with rfl | rfl <;> simp
  rw [e]
  exact prs_no P.1 P.1
theorem ct_isEmpty {P : Pce} (hP : PcC P I) (hO : PcOK P) : Ct X d 66 M_X3_isEmpty 66 [.ref 22] (I, J, rf0) (RI (fun y9 m => y9 = bI (decide (P.2.1 = 0)) ∧ m = (I, J, rf0))) := by
  show Go _ _ _ _ _ _ [_] _ _ _
  refine g_aload_n dX3_isEmpty_0 rfl ?_
  refine t_getI dX3_isEmpty_1 fl_X3_28 rfl (by decide) rfl (by decide) ?_
  rw [hP.2.1]
  refine g_if_ne (tgt := 11) dX3_isEmpty_4 (by decide) (fun c4 => ?_) (fun c4 => ?_)
  · skip
    refine g_iconst (v := 0) dX3_isEmpty_11 (by decide) ?_
    refine g_iret dX3_isEmpty_12 (fun ty h => by cases h; rfl) ?_
    refine ⟨?_, rfl⟩
    have h14 := hO.2.1
    first
      | (rw [decide_eq_true ((nI_eq (by omega) (by decide)).mp (show nI P.2.1 = nI 0 from c4))]; rfl)
      | (rw [decide_eq_false (fun q => c4 (by rw [q]; rfl))]; rfl)
  · skip
    refine g_iconst (v := 1) dX3_isEmpty_7 (by decide) ?_
    refine g_goto (tgt := 12) dX3_isEmpty_8 (by decide) ?_
    refine g_iret dX3_isEmpty_12 (fun ty h => by cases h; rfl) ?_
    refine ⟨?_, rfl⟩
    have h14 := hO.2.1
    first
      | (rw [decide_eq_true ((nI_eq (by omega) (by decide)).mp (show nI P.2.1 = nI 0 from c4))]; rfl)
      | (rw [decide_eq_false (fun q => c4 (by rw [q]; rfl))]; rfl)
theorem ct_hasPlace {P : Pce} {k : Int32} (hP : PcC P I) : Ct X d 66 M_X3_hasPlace 66 [.ref 22, .int k] (I, J, rf0) (RI (fun y9 m => y9 = bI (inR k P.2.1) ∧ m = (I, J, rf0))) := by
  show Go _ _ _ _ _ _ [_, _] _ _ _
  refine g_iload_n dX3_hasPlace_0 rfl ?_
  refine g_if_lt (tgt := 16) dX3_hasPlace_1 (by decide) (fun c1 => ?_) (fun c1 => ?_)
  · skip
    refine g_iconst (v := 0) dX3_hasPlace_16 (by decide) ?_
    refine g_iret dX3_hasPlace_17 (fun ty h => by cases h; rfl) ?_
    refine ⟨?_, rfl⟩
    first
      | rw [inR_t (by assumption) (by assumption)]; rfl
      | rw [inR_f0 (by assumption)]; rfl
      | rw [inR_f1 (by assumption)]; rfl
  · skip
    refine g_iload_n dX3_hasPlace_4 rfl ?_
    refine g_aload_n dX3_hasPlace_5 rfl ?_
    refine t_getI dX3_hasPlace_6 fl_X3_28 rfl (by decide) rfl (by decide) ?_
    rw [hP.2.1]
    refine g_icmp_ge (tgt := 16) dX3_hasPlace_9 (by decide) (fun c9 => ?_) (fun c9 => ?_)
    · skip
      refine g_iconst (v := 0) dX3_hasPlace_16 (by decide) ?_
      refine g_iret dX3_hasPlace_17 (fun ty h => by cases h; rfl) ?_
      refine ⟨?_, rfl⟩
      first
        | rw [inR_t (by assumption) (by assumption)]; rfl
        | rw [inR_f0 (by assumption)]; rfl
        | rw [inR_f1 (by assumption)]; rfl
    · skip
      refine g_iconst (v := 1) dX3_hasPlace_12 (by decide) ?_
      refine g_goto (tgt := 17) dX3_hasPlace_13 (by decide) ?_
      refine g_iret dX3_hasPlace_17 (fun ty h => by cases h; rfl) ?_
      refine ⟨?_, rfl⟩
      first
        | rw [inR_t (by assumption) (by assumption)]; rfl
        | rw [inR_f0 (by assumption)]; rfl
        | rw [inR_f1 (by assumption)]; rfl
theorem ct_hasPlayer {P : Pce} {k : Int32} (hP : PcC P I) : Ct X d 66 M_X3_hasPlayer 66 [.ref 22, .int k] (I, J, rf0) (RI (fun y9 m => y9 = bI (inR k P.1) ∧ m = (I, J, rf0))) := by
  show Go _ _ _ _ _ _ [_, _] _ _ _
  refine g_iload_n dX3_hasPlayer_0 rfl ?_
  refine g_if_lt (tgt := 16) dX3_hasPlayer_1 (by decide) (fun c1 => ?_) (fun c1 => ?_)
  · skip
    refine g_iconst (v := 0) dX3_hasPlayer_16 (by decide) ?_
    refine g_iret dX3_hasPlayer_17 (fun ty h => by cases h; rfl) ?_
    refine ⟨?_, rfl⟩
    first
      | rw [inR_t (by assumption) (by assumption)]; rfl
      | rw [inR_f0 (by assumption)]; rfl
      | rw [inR_f1 (by assumption)]; rfl
  · skip
    refine g_iload_n dX3_hasPlayer_4 rfl ?_
    refine g_aload_n dX3_hasPlayer_5 rfl ?_
    refine t_getI dX3_hasPlayer_6 fl_X3_24 rfl (by decide) rfl (by decide) ?_
    rw [hP.1]
    refine g_icmp_ge (tgt := 16) dX3_hasPlayer_9 (by decide) (fun c9 => ?_) (fun c9 => ?_)
    · skip
      refine g_iconst (v := 0) dX3_hasPlayer_16 (by decide) ?_
      refine g_iret dX3_hasPlayer_17 (fun ty h => by cases h; rfl) ?_
      refine ⟨?_, rfl⟩
      first
        | rw [inR_t (by assumption) (by assumption)]; rfl
        | rw [inR_f0 (by assumption)]; rfl
        | rw [inR_f1 (by assumption)]; rfl
    · skip
      refine g_iconst (v := 1) dX3_hasPlayer_12 (by decide) ?_
      refine g_goto (tgt := 17) dX3_hasPlayer_13 (by decide) ?_
      refine g_iret dX3_hasPlayer_17 (fun ty h => by cases h; rfl) ?_
      refine ⟨?_, rfl⟩
      first
        | rw [inR_t (by assumption) (by assumption)]; rfl
        | rw [inR_f0 (by assumption)]; rfl
        | rw [inR_f1 (by assumption)]; rfl
theorem ct_kindOf {P : Pce} {x : Nat} (hP : PcC P I) (hO : PcOK P) (hx : x < P.2.1) : Ct X d 66 M_X3_kindOf 66 [.ref 22, .int (nI x)] (I, J, rf0) (RI (fun y9 m => y9 = nI (P.2.2.1 x) ∧ m = (I, J, rf0))) := by
  have h14 := hO.2.1
  show Go _ _ _ _ _ _ [_, _] _ _ _
  refine g_iload_n dX3_kindOf_0 rfl ?_
  refine g_if_lt (tgt := 21) dX3_kindOf_1 (by decide) (fun c1 => ?_) (fun c1 => ?_)
  · exact absurd c1 (nI_neg (by omega))
  · skip
    refine g_iload_n dX3_kindOf_4 rfl ?_
    refine g_aload_n dX3_kindOf_5 rfl ?_
    refine t_getI dX3_kindOf_6 fl_X3_28 rfl (by decide) rfl (by decide) ?_
    rw [hP.2.1]
    refine g_icmp_ge (tgt := 21) dX3_kindOf_9 (by decide) (fun c9 => ?_) (fun c9 => ?_)
    · exact absurd (nI_lt hx (by omega)) (Int32.not_lt.mpr c9)
    · skip
      refine g_aload_n dX3_kindOf_12 rfl ?_
      refine t_getR dX3_kindOf_13 fl_X3_9 rfl (by decide) rfl (by decide) rfl ?_
      refine g_iload_n dX3_kindOf_16 rfl ?_
      refine t_iald dX3_kindOf_17 rfl (by decide) (in_nI (by omega) (by decide)) ?_
      refine g_goto (tgt := 23) dX3_kindOf_18 (by decide) ?_
      refine g_iret dX3_kindOf_23 (fun ty h => by cases h; rfl) ?_
      exact ⟨by rw [cl_nI (by omega)]; exact hP.2.2.1 x hx, rfl⟩
theorem ct_noteOf {P : Pce} {p x : Nat} (hP : PcC P I) (hO : PcOK P) (hp : p < P.1) (hx : x < P.2.1) : Ct X (d + 1) 66 M_X3_noteOf 66 [.ref 22, .int (nI p), .int (nI x)] (I, J, rf0) (RI (fun y9 m => y9 = nI (P.2.2.2 x p) ∧ m = (I, J, rf0))) := by
  have h14 := hO.2.1
  have h4 := hO.1
  show Go _ _ _ _ _ _ [_, _, _] _ _ _
  refine g_aload_n dX3_noteOf_0 rfl ?_
  refine g_iload_n dX3_noteOf_1 rfl ?_
  refine g_callVi dX3_noteOf_2 ln_X3_44 ⟨_, rfl⟩ rfl (by decide) ⟨_, _, rfl⟩ rfl (Nat.le_of_ble_eq_true rfl) (Nat.le_of_ble_eq_true rfl) (ct_hasPlayer hP) rfl (fun r2 m2 h2 => ?_)
  obtain ⟨rfl, rfl⟩ := h2
  refine g_if_eq (tgt := 29) dX3_noteOf_5 (by decide) (fun c5 => ?_) (fun c5 => ?_)
  · exact absurd c5 (by rw [inR_nI (by omega) hp]; decide)
  · skip
    refine g_aload_n dX3_noteOf_8 rfl ?_
    refine g_iload_n dX3_noteOf_9 rfl ?_
    refine g_callVi dX3_noteOf_10 ln_X3_48 ⟨_, rfl⟩ rfl (by decide) ⟨_, _, rfl⟩ rfl (Nat.le_of_ble_eq_true rfl) (Nat.le_of_ble_eq_true rfl) (ct_hasPlace hP) rfl (fun r10 m10 h10 => ?_)
    obtain ⟨rfl, rfl⟩ := h10
    refine g_if_eq (tgt := 29) dX3_noteOf_13 (by decide) (fun c13 => ?_) (fun c13 => ?_)
    · exact absurd c13 (by rw [inR_nI (by omega) hx]; decide)
    · skip
      refine g_aload_n dX3_noteOf_16 rfl ?_
      refine t_getR dX3_noteOf_17 fl_X3_15 rfl (by decide) rfl (by decide) rfl ?_
      refine g_iload_n dX3_noteOf_20 rfl ?_
      refine g_iconst (v := 4) dX3_noteOf_21 (by decide) ?_
      refine g_imul dX3_noteOf_22 ?_
      refine g_iload_n dX3_noteOf_23 rfl ?_
      refine g_iadd dX3_noteOf_24 ?_
      refine t_iald dX3_noteOf_25 rfl (by decide) (by rw [ix4]; exact in_nI (by omega) (by decide)) ?_
      refine g_goto (tgt := 31) dX3_noteOf_26 (by decide) ?_
      refine g_iret dX3_noteOf_31 (fun ty h => by cases h; rfl) ?_
      exact ⟨by rw [ix4, cl_nI (by omega)]; exact hP.2.2.2 x hx p hp, rfl⟩
theorem ct_soundOf {P : Pce} {p : Nat} {z : Int} (hP : PcC P I) (hO : PcOK P) (hp : p < 100) (hz : -100 ≤ z ∧ z ≤ 100) : Ct X d 66 M_X3_soundOf 66 [.ref 22, .int (nI p), .int (zI z)] (I, J, rf0) (RI (fun y9 m => y9 = zI (sndS P p z) ∧ m = (I, J, rf0))) := by
  have h14 := hO.2.1
  have h4 := hO.1
  show Go _ _ _ _ _ _ [_, _, _, _] _ _ _
  refine g_iload_n dX3_soundOf_0 rfl ?_
  refine g_if_lt (tgt := 24) dX3_soundOf_1 (by decide) (fun c1 => ?_) (fun c1 => ?_)
  · exact absurd c1 (nI_neg (by omega))
  · skip
    refine g_iload_n dX3_soundOf_4 rfl ?_
    refine g_aload_n dX3_soundOf_5 rfl ?_
    refine t_getI dX3_soundOf_6 fl_X3_24 rfl (by decide) rfl (by decide) ?_
    rw [hP.1]
    refine g_icmp_ge (tgt := 24) dX3_soundOf_9 (by decide) (fun c9 => ?_) (fun c9 => ?_)
    · skip
      refine g_iconst (v := -1) dX3_soundOf_24 (by decide) ?_
      refine g_iret dX3_soundOf_25 (fun ty h => by cases h; rfl) ?_
      refine ⟨?_, rfl⟩
      unfold sndS
      rw [if_neg (fun q => by
        first
          | exact absurd (nI_lt q.1 (by omega)) (Int32.not_lt.mpr c9)
          | exact absurd ((z_lt (by omega) (by omega)).mp (show zI z < zI 0 from c13)) (by omega)
          | exact absurd (show zI z < nI P.2.1 from by rw [nI_z]; exact (z_lt (by omega) (by omega)).mpr q.2.2) c21)]
      decide
    · skip
      refine g_iload_n dX3_soundOf_12 rfl ?_
      refine g_if_lt (tgt := 24) dX3_soundOf_13 (by decide) (fun c13 => ?_) (fun c13 => ?_)
      · skip
        refine g_iconst (v := -1) dX3_soundOf_24 (by decide) ?_
        refine g_iret dX3_soundOf_25 (fun ty h => by cases h; rfl) ?_
        refine ⟨?_, rfl⟩
        unfold sndS
        rw [if_neg (fun q => by
          first
            | exact absurd (nI_lt q.1 (by omega)) (Int32.not_lt.mpr c9)
            | exact absurd ((z_lt (by omega) (by omega)).mp (show zI z < zI 0 from c13)) (by omega)
            | exact absurd (show zI z < nI P.2.1 from by rw [nI_z]; exact (z_lt (by omega) (by omega)).mpr q.2.2) c21)]
        decide
      · skip
        refine g_iload_n dX3_soundOf_16 rfl ?_
        refine g_aload_n dX3_soundOf_17 rfl ?_
        refine t_getI dX3_soundOf_18 fl_X3_28 rfl (by decide) rfl (by decide) ?_
        rw [hP.2.1]
        refine g_icmp_lt (tgt := 26) dX3_soundOf_21 (by decide) (fun c21 => ?_) (fun c21 => ?_)
        · skip
          have hp4 : p < P.1 := (nI_ltI (by omega) (by omega)).mp (Int32.not_le.mp c9)
          have hz0 : 0 ≤ z := by
            have := (not_congr (z_lt (by omega) (by omega))).mp (show ¬ zI z < zI 0 from c13)
            omega
          have hzx : z < P.2.1 := (z_lt (by omega) (by omega)).mp (by rw [← nI_z]; exact c21)
          obtain ⟨x, rfl⟩ : ∃ x : Nat, z = (x : Int) := ⟨z.toNat, by omega⟩
          have hx : x < P.2.1 := by omega
          have hn := hP.2.2.2 x hx p hp4
          have hn10 := hO.2.2.2.2 x p
          rw [← nI_z]
          refine g_aload_n dX3_soundOf_26 rfl ?_
          refine t_getR dX3_soundOf_27 fl_X3_15 rfl (by decide) rfl (by decide) rfl ?_
          refine g_iload_n dX3_soundOf_30 rfl ?_
          refine g_iconst (v := 4) dX3_soundOf_31 (by decide) ?_
          refine g_imul dX3_soundOf_32 ?_
          refine g_iload_n dX3_soundOf_33 rfl ?_
          refine g_iadd dX3_soundOf_34 ?_
          refine t_iald dX3_soundOf_35 rfl (by decide) (by rw [ix4]; exact in_nI (by omega) (by decide)) ?_
          refine g_istore_n dX3_soundOf_36 (by decide) ?_
          show Go _ _ _ _ _ _ [_, _, _, _] _ _ _
          refine g_iload_n dX3_soundOf_37 rfl ?_
          refine g_bipush (v := 8) dX3_soundOf_38 (by decide) ?_
          rw [ix4, cl_nI (by omega), hn]
          refine g_icmp_lt (tgt := 47) dX3_soundOf_40 (by decide) (fun c40 => ?_) (fun c40 => ?_)
          · skip
            refine g_iload_n dX3_soundOf_47 rfl ?_
            refine g_iret dX3_soundOf_48 (fun ty h => by cases h; rfl) ?_
            refine ⟨?_, rfl⟩
            unfold sndS
            rw [if_pos ⟨hp4, hz0, hzx⟩, Int.toNat_natCast]
            first
              | (have h8 : P.2.2.2 x p < 8 := (nI_ltI (by omega) (by decide)).mp c40
                 rw [if_pos h8, ← nI_z])
              | (have h8 : ¬ P.2.2.2 x p < 8 := fun q => c40 (nI_lt q (by decide))
                 rw [if_neg h8]; decide)
          · skip
            refine g_iconst (v := -1) dX3_soundOf_43 (by decide) ?_
            refine g_goto (tgt := 48) dX3_soundOf_44 (by decide) ?_
            refine g_iret dX3_soundOf_48 (fun ty h => by cases h; rfl) ?_
            refine ⟨?_, rfl⟩
            unfold sndS
            rw [if_pos ⟨hp4, hz0, hzx⟩, Int.toNat_natCast]
            first
              | (have h8 : P.2.2.2 x p < 8 := (nI_ltI (by omega) (by decide)).mp c40
                 rw [if_pos h8, ← nI_z])
              | (have h8 : ¬ P.2.2.2 x p < 8 := fun q => c40 (nI_lt q (by decide))
                 rw [if_neg h8]; decide)
        · skip
          refine g_iconst (v := -1) dX3_soundOf_24 (by decide) ?_
          refine g_iret dX3_soundOf_25 (fun ty h => by cases h; rfl) ?_
          refine ⟨?_, rfl⟩
          unfold sndS
          rw [if_neg (fun q => by
            first
              | exact absurd (nI_lt q.1 (by omega)) (Int32.not_lt.mpr c9)
              | exact absurd ((z_lt (by omega) (by omega)).mp (show zI z < zI 0 from c13)) (by omega)
              | exact absurd (show zI z < nI P.2.1 from by rw [nI_z]; exact (z_lt (by omega) (by omega)).mpr q.2.2) c21)]
          decide
theorem ct_clash {k : Nat} {a b : Int} (hk : k < 6) (ha : -1 ≤ a ∧ a ≤ 7) (hb : -1 ≤ b ∧ b ≤ 7) : Ct X d 66 M_X3_clash 66 [.int (nI k), .int (zI a), .int (zI b)] (I, J, rf0) (RI (fun y9 m => y9 = bI (clsB k a b) ∧ m = (I, J, rf0))) := by
  show Go _ _ _ _ _ _ [_, _, _, _] _ _ _
  refine g_iload_n dX3_clash_0 rfl ?_
  refine g_iconst (v := -1) dX3_clash_1 (by decide) ?_
  refine g_icmp_eq (tgt := 10) dX3_clash_2 (by decide) (fun c2 => ?_) (fun c2 => ?_)
  · skip
    refine g_iconst (v := 0) dX3_clash_10 (by decide) ?_
    refine g_iret dX3_clash_11 (fun ty h => by cases h; rfl) ?_
    refine ⟨?_, rfl⟩
    have hab : a = -1 ∨ b = -1 := by
      first
        | (rw [z_m1] at c2; exact Or.inl ((z_eq (by omega) (by omega)).mp c2))
        | (rw [z_m1] at c7; exact Or.inr ((z_eq (by omega) (by omega)).mp c7))
    unfold clsB
    rcases hab with rfl | rfl
    · rfl
    · rw [show decide (0 ≤ (-1 : Int)) = false from rfl, Bool.false_and, Bool.and_false]; rfl
  · skip
    refine g_iload_n dX3_clash_5 rfl ?_
    refine g_iconst (v := -1) dX3_clash_6 (by decide) ?_
    refine g_icmp_ne (tgt := 12) dX3_clash_7 (by decide) (fun c7 => ?_) (fun c7 => ?_)
    · skip
      have ha0 : 0 ≤ a := by
        rcases Int.lt_or_le a 0 with q | q
        · exact absurd (show zI a = -1 by rw [z_m1, show a = -1 by omega]) c2
        · exact q
      have hb0 : 0 ≤ b := by
        rcases Int.lt_or_le b 0 with q | q
        · exact absurd (show zI b = -1 by rw [z_m1, show b = -1 by omega]) c7
        · exact q
      refine g_iload_n dX3_clash_12 rfl ?_
      refine g_iload_n dX3_clash_13 rfl ?_
      refine g_icmp_ge (tgt := 23) dX3_clash_14 (by decide) (fun c14 => ?_) (fun c14 => ?_)
      · skip
        refine g_iload_n dX3_clash_23 rfl ?_
        refine g_iload_n dX3_clash_24 rfl ?_
        refine g_isub dX3_clash_25 ?_
        rw [z_sub]
        first
          | (have q14 := (z_le (by omega) (by omega)).mp c14
             generalize hwe : a - b = w)
          | (have q14 := (not_congr (z_le (by omega) (by omega))).mp c14
             generalize hwe : b - a = w)
        have hw1 : 0 ≤ w := by omega
        have hw2 : w = a - b ∨ w = b - a := by omega
        have hw7 : w ≤ 7 := by omega
        refine g_istore_n dX3_clash_26 (by decide) ?_
        show Go _ _ _ _ _ _ [_, _, _, _] _ _ _
        refine g_iload_n dX3_clash_27 rfl ?_
        rcases (show k = 0 ∨ k = 1 ∨ k = 2 ∨ k = 3 ∨ k = 4 ∨ k = 5 by omega) with rfl | rfl | rfl | rfl | rfl | rfl
        · skip
          refine g_tabIn (off := 40) (tgt := 68) dX3_clash_28 (by decide) (by decide) (by decide) (by decide) ?_
          refine g_iload_n dX3_clash_68 rfl ?_
          refine g_iconst (v := 1) dX3_clash_69 (by decide) ?_
          refine g_icmp_eq (tgt := 79) dX3_clash_70 (by decide) (fun c70 => ?_) (fun c70 => ?_)
          · skip
            refine g_iconst (v := 1) dX3_clash_79 (by decide) ?_
            refine g_goto (tgt := 84) dX3_clash_80 (by decide) ?_
            refine g_iret dX3_clash_84 (fun ty h => by cases h; rfl) ?_
            refine ⟨?_, rfl⟩
            rw [cls_0]
            rw [decide_eq_true ha0, decide_eq_true hb0, Bool.true_and, Bool.true_and]
            first
              | (have e1 := (z_eq (a := w) (b := 1) (by omega) (by omega)).mp c70
                 rw [decide_eq_true (by omega)]; rfl)
              | (have e1 := (z_eq (a := w) (b := 6) (by omega) (by omega)).mp c76
                 rw [decide_eq_true (by omega)]; rfl)
              | (have e1 := (not_congr (z_eq (a := w) (b := 1) (by omega) (by omega))).mp c70
                 have e2 := (not_congr (z_eq (a := w) (b := 6) (by omega) (by omega))).mp c76
                 rw [decide_eq_false (by omega)]; rfl)
          · skip
            refine g_iload_n dX3_clash_73 rfl ?_
            refine g_bipush (v := 6) dX3_clash_74 (by decide) ?_
            refine g_icmp_ne (tgt := 83) dX3_clash_76 (by decide) (fun c76 => ?_) (fun c76 => ?_)
            · skip
              refine g_iconst (v := 0) dX3_clash_83 (by decide) ?_
              refine g_iret dX3_clash_84 (fun ty h => by cases h; rfl) ?_
              refine ⟨?_, rfl⟩
              rw [cls_0]
              rw [decide_eq_true ha0, decide_eq_true hb0, Bool.true_and, Bool.true_and]
              first
                | (have e1 := (z_eq (a := w) (b := 1) (by omega) (by omega)).mp c70
                   rw [decide_eq_true (by omega)]; rfl)
                | (have e1 := (z_eq (a := w) (b := 6) (by omega) (by omega)).mp c76
                   rw [decide_eq_true (by omega)]; rfl)
                | (have e1 := (not_congr (z_eq (a := w) (b := 1) (by omega) (by omega))).mp c70
                   have e2 := (not_congr (z_eq (a := w) (b := 6) (by omega) (by omega))).mp c76
                   rw [decide_eq_false (by omega)]; rfl)
            · skip
              refine g_iconst (v := 1) dX3_clash_79 (by decide) ?_
              refine g_goto (tgt := 84) dX3_clash_80 (by decide) ?_
              refine g_iret dX3_clash_84 (fun ty h => by cases h; rfl) ?_
              refine ⟨?_, rfl⟩
              rw [cls_0]
              rw [decide_eq_true ha0, decide_eq_true hb0, Bool.true_and, Bool.true_and]
              first
                | (have e1 := (z_eq (a := w) (b := 1) (by omega) (by omega)).mp c70
                   rw [decide_eq_true (by omega)]; rfl)
                | (have e1 := (z_eq (a := w) (b := 6) (by omega) (by omega)).mp c76
                   rw [decide_eq_true (by omega)]; rfl)
                | (have e1 := (not_congr (z_eq (a := w) (b := 1) (by omega) (by omega))).mp c70
                   have e2 := (not_congr (z_eq (a := w) (b := 6) (by omega) (by omega))).mp c76
                   rw [decide_eq_false (by omega)]; rfl)
        · skip
          refine g_tabIn (off := 57) (tgt := 85) dX3_clash_28 (by decide) (by decide) (by decide) (by decide) ?_
          refine g_iload_n dX3_clash_85 rfl ?_
          refine g_if_eq (tgt := 93) dX3_clash_86 (by decide) (fun c86 => ?_) (fun c86 => ?_)
          · skip
            refine g_iconst (v := 0) dX3_clash_93 (by decide) ?_
            refine g_iret dX3_clash_94 (fun ty h => by cases h; rfl) ?_
            refine ⟨?_, rfl⟩
            rw [cls_13 (by decide)]
            rw [decide_eq_true ha0, decide_eq_true hb0, Bool.true_and, Bool.true_and]
            first
              | (have e1 := (z_eq (a := w) (b := 0) (by omega) (by omega)).mp c86
                 rw [decide_eq_false (by omega)]; rfl)
              | (have e1 := (not_congr (z_eq (a := w) (b := 0) (by omega) (by omega))).mp c86
                 rw [decide_eq_true (by omega)]; rfl)
          · skip
            refine g_iconst (v := 1) dX3_clash_89 (by decide) ?_
            refine g_goto (tgt := 94) dX3_clash_90 (by decide) ?_
            refine g_iret dX3_clash_94 (fun ty h => by cases h; rfl) ?_
            refine ⟨?_, rfl⟩
            rw [cls_13 (by decide)]
            rw [decide_eq_true ha0, decide_eq_true hb0, Bool.true_and, Bool.true_and]
            first
              | (have e1 := (z_eq (a := w) (b := 0) (by omega) (by omega)).mp c86
                 rw [decide_eq_false (by omega)]; rfl)
              | (have e1 := (not_congr (z_eq (a := w) (b := 0) (by omega) (by omega))).mp c86
                 rw [decide_eq_true (by omega)]; rfl)
        · skip
          refine g_tabIn (off := 78) (tgt := 106) dX3_clash_28 (by decide) (by decide) (by decide) (by decide) ?_
          refine g_iconst (v := 0) dX3_clash_106 (by decide) ?_
          refine g_iret dX3_clash_107 (fun ty h => by cases h; rfl) ?_
          refine ⟨?_, rfl⟩
          rw [cls_24 (by decide)]
          rfl
        · skip
          refine g_tabIn (off := 57) (tgt := 85) dX3_clash_28 (by decide) (by decide) (by decide) (by decide) ?_
          refine g_iload_n dX3_clash_85 rfl ?_
          refine g_if_eq (tgt := 93) dX3_clash_86 (by decide) (fun c86 => ?_) (fun c86 => ?_)
          · skip
            refine g_iconst (v := 0) dX3_clash_93 (by decide) ?_
            refine g_iret dX3_clash_94 (fun ty h => by cases h; rfl) ?_
            refine ⟨?_, rfl⟩
            rw [cls_13 (by decide)]
            rw [decide_eq_true ha0, decide_eq_true hb0, Bool.true_and, Bool.true_and]
            first
              | (have e1 := (z_eq (a := w) (b := 0) (by omega) (by omega)).mp c86
                 rw [decide_eq_false (by omega)]; rfl)
              | (have e1 := (not_congr (z_eq (a := w) (b := 0) (by omega) (by omega))).mp c86
                 rw [decide_eq_true (by omega)]; rfl)
          · skip
            refine g_iconst (v := 1) dX3_clash_89 (by decide) ?_
            refine g_goto (tgt := 94) dX3_clash_90 (by decide) ?_
            refine g_iret dX3_clash_94 (fun ty h => by cases h; rfl) ?_
            refine ⟨?_, rfl⟩
            rw [cls_13 (by decide)]
            rw [decide_eq_true ha0, decide_eq_true hb0, Bool.true_and, Bool.true_and]
            first
              | (have e1 := (z_eq (a := w) (b := 0) (by omega) (by omega)).mp c86
                 rw [decide_eq_false (by omega)]; rfl)
              | (have e1 := (not_congr (z_eq (a := w) (b := 0) (by omega) (by omega))).mp c86
                 rw [decide_eq_true (by omega)]; rfl)
        · skip
          refine g_tabIn (off := 78) (tgt := 106) dX3_clash_28 (by decide) (by decide) (by decide) (by decide) ?_
          refine g_iconst (v := 0) dX3_clash_106 (by decide) ?_
          refine g_iret dX3_clash_107 (fun ty h => by cases h; rfl) ?_
          refine ⟨?_, rfl⟩
          rw [cls_24 (by decide)]
          rfl
        · skip
          refine g_tabIn (off := 67) (tgt := 95) dX3_clash_28 (by decide) (by decide) (by decide) (by decide) ?_
          refine g_iload_n dX3_clash_95 rfl ?_
          refine g_iconst (v := 1) dX3_clash_96 (by decide) ?_
          refine g_icmp_ne (tgt := 104) dX3_clash_97 (by decide) (fun c97 => ?_) (fun c97 => ?_)
          · skip
            refine g_iconst (v := 0) dX3_clash_104 (by decide) ?_
            refine g_iret dX3_clash_105 (fun ty h => by cases h; rfl) ?_
            refine ⟨?_, rfl⟩
            rw [cls_5]
            rw [decide_eq_true ha0, decide_eq_true hb0, Bool.true_and, Bool.true_and]
            first
              | (have e1 := (z_eq (a := w) (b := 1) (by omega) (by omega)).mp c97
                 rw [decide_eq_true (by omega)]; rfl)
              | (have e1 := (not_congr (z_eq (a := w) (b := 1) (by omega) (by omega))).mp c97
                 rw [decide_eq_false (by omega)]; rfl)
          · skip
            refine g_iconst (v := 1) dX3_clash_100 (by decide) ?_
            refine g_goto (tgt := 105) dX3_clash_101 (by decide) ?_
            refine g_iret dX3_clash_105 (fun ty h => by cases h; rfl) ?_
            refine ⟨?_, rfl⟩
            rw [cls_5]
            rw [decide_eq_true ha0, decide_eq_true hb0, Bool.true_and, Bool.true_and]
            first
              | (have e1 := (z_eq (a := w) (b := 1) (by omega) (by omega)).mp c97
                 rw [decide_eq_true (by omega)]; rfl)
              | (have e1 := (not_congr (z_eq (a := w) (b := 1) (by omega) (by omega))).mp c97
                 rw [decide_eq_false (by omega)]; rfl)
      · skip
        refine g_iload_n dX3_clash_17 rfl ?_
        refine g_iload_n dX3_clash_18 rfl ?_
        refine g_isub dX3_clash_19 ?_
        refine g_goto (tgt := 26) dX3_clash_20 (by decide) ?_
        rw [z_sub]
        first
          | (have q14 := (z_le (by omega) (by omega)).mp c14
             generalize hwe : a - b = w)
          | (have q14 := (not_congr (z_le (by omega) (by omega))).mp c14
             generalize hwe : b - a = w)
        have hw1 : 0 ≤ w := by omega
        have hw2 : w = a - b ∨ w = b - a := by omega
        have hw7 : w ≤ 7 := by omega
        refine g_istore_n dX3_clash_26 (by decide) ?_
        show Go _ _ _ _ _ _ [_, _, _, _] _ _ _
        refine g_iload_n dX3_clash_27 rfl ?_
        rcases (show k = 0 ∨ k = 1 ∨ k = 2 ∨ k = 3 ∨ k = 4 ∨ k = 5 by omega) with rfl | rfl | rfl | rfl | rfl | rfl
        · skip
          refine g_tabIn (off := 40) (tgt := 68) dX3_clash_28 (by decide) (by decide) (by decide) (by decide) ?_
          refine g_iload_n dX3_clash_68 rfl ?_
          refine g_iconst (v := 1) dX3_clash_69 (by decide) ?_
          refine g_icmp_eq (tgt := 79) dX3_clash_70 (by decide) (fun c70 => ?_) (fun c70 => ?_)
          · skip
            refine g_iconst (v := 1) dX3_clash_79 (by decide) ?_
            refine g_goto (tgt := 84) dX3_clash_80 (by decide) ?_
            refine g_iret dX3_clash_84 (fun ty h => by cases h; rfl) ?_
            refine ⟨?_, rfl⟩
            rw [cls_0]
            rw [decide_eq_true ha0, decide_eq_true hb0, Bool.true_and, Bool.true_and]
            first
              | (have e1 := (z_eq (a := w) (b := 1) (by omega) (by omega)).mp c70
                 rw [decide_eq_true (by omega)]; rfl)
              | (have e1 := (z_eq (a := w) (b := 6) (by omega) (by omega)).mp c76
                 rw [decide_eq_true (by omega)]; rfl)
              | (have e1 := (not_congr (z_eq (a := w) (b := 1) (by omega) (by omega))).mp c70
                 have e2 := (not_congr (z_eq (a := w) (b := 6) (by omega) (by omega))).mp c76
                 rw [decide_eq_false (by omega)]; rfl)
          · skip
            refine g_iload_n dX3_clash_73 rfl ?_
            refine g_bipush (v := 6) dX3_clash_74 (by decide) ?_
            refine g_icmp_ne (tgt := 83) dX3_clash_76 (by decide) (fun c76 => ?_) (fun c76 => ?_)
            · skip
              refine g_iconst (v := 0) dX3_clash_83 (by decide) ?_
              refine g_iret dX3_clash_84 (fun ty h => by cases h; rfl) ?_
              refine ⟨?_, rfl⟩
              rw [cls_0]
              rw [decide_eq_true ha0, decide_eq_true hb0, Bool.true_and, Bool.true_and]
              first
                | (have e1 := (z_eq (a := w) (b := 1) (by omega) (by omega)).mp c70
                   rw [decide_eq_true (by omega)]; rfl)
                | (have e1 := (z_eq (a := w) (b := 6) (by omega) (by omega)).mp c76
                   rw [decide_eq_true (by omega)]; rfl)
                | (have e1 := (not_congr (z_eq (a := w) (b := 1) (by omega) (by omega))).mp c70
                   have e2 := (not_congr (z_eq (a := w) (b := 6) (by omega) (by omega))).mp c76
                   rw [decide_eq_false (by omega)]; rfl)
            · skip
              refine g_iconst (v := 1) dX3_clash_79 (by decide) ?_
              refine g_goto (tgt := 84) dX3_clash_80 (by decide) ?_
              refine g_iret dX3_clash_84 (fun ty h => by cases h; rfl) ?_
              refine ⟨?_, rfl⟩
              rw [cls_0]
              rw [decide_eq_true ha0, decide_eq_true hb0, Bool.true_and, Bool.true_and]
              first
                | (have e1 := (z_eq (a := w) (b := 1) (by omega) (by omega)).mp c70
                   rw [decide_eq_true (by omega)]; rfl)
                | (have e1 := (z_eq (a := w) (b := 6) (by omega) (by omega)).mp c76
                   rw [decide_eq_true (by omega)]; rfl)
                | (have e1 := (not_congr (z_eq (a := w) (b := 1) (by omega) (by omega))).mp c70
                   have e2 := (not_congr (z_eq (a := w) (b := 6) (by omega) (by omega))).mp c76
                   rw [decide_eq_false (by omega)]; rfl)
        · skip
          refine g_tabIn (off := 57) (tgt := 85) dX3_clash_28 (by decide) (by decide) (by decide) (by decide) ?_
          refine g_iload_n dX3_clash_85 rfl ?_
          refine g_if_eq (tgt := 93) dX3_clash_86 (by decide) (fun c86 => ?_) (fun c86 => ?_)
          · skip
            refine g_iconst (v := 0) dX3_clash_93 (by decide) ?_
            refine g_iret dX3_clash_94 (fun ty h => by cases h; rfl) ?_
            refine ⟨?_, rfl⟩
            rw [cls_13 (by decide)]
            rw [decide_eq_true ha0, decide_eq_true hb0, Bool.true_and, Bool.true_and]
            first
              | (have e1 := (z_eq (a := w) (b := 0) (by omega) (by omega)).mp c86
                 rw [decide_eq_false (by omega)]; rfl)
              | (have e1 := (not_congr (z_eq (a := w) (b := 0) (by omega) (by omega))).mp c86
                 rw [decide_eq_true (by omega)]; rfl)
          · skip
            refine g_iconst (v := 1) dX3_clash_89 (by decide) ?_
            refine g_goto (tgt := 94) dX3_clash_90 (by decide) ?_
            refine g_iret dX3_clash_94 (fun ty h => by cases h; rfl) ?_
            refine ⟨?_, rfl⟩
            rw [cls_13 (by decide)]
            rw [decide_eq_true ha0, decide_eq_true hb0, Bool.true_and, Bool.true_and]
            first
              | (have e1 := (z_eq (a := w) (b := 0) (by omega) (by omega)).mp c86
                 rw [decide_eq_false (by omega)]; rfl)
              | (have e1 := (not_congr (z_eq (a := w) (b := 0) (by omega) (by omega))).mp c86
                 rw [decide_eq_true (by omega)]; rfl)
        · skip
          refine g_tabIn (off := 78) (tgt := 106) dX3_clash_28 (by decide) (by decide) (by decide) (by decide) ?_
          refine g_iconst (v := 0) dX3_clash_106 (by decide) ?_
          refine g_iret dX3_clash_107 (fun ty h => by cases h; rfl) ?_
          refine ⟨?_, rfl⟩
          rw [cls_24 (by decide)]
          rfl
        · skip
          refine g_tabIn (off := 57) (tgt := 85) dX3_clash_28 (by decide) (by decide) (by decide) (by decide) ?_
          refine g_iload_n dX3_clash_85 rfl ?_
          refine g_if_eq (tgt := 93) dX3_clash_86 (by decide) (fun c86 => ?_) (fun c86 => ?_)
          · skip
            refine g_iconst (v := 0) dX3_clash_93 (by decide) ?_
            refine g_iret dX3_clash_94 (fun ty h => by cases h; rfl) ?_
            refine ⟨?_, rfl⟩
            rw [cls_13 (by decide)]
            rw [decide_eq_true ha0, decide_eq_true hb0, Bool.true_and, Bool.true_and]
            first
              | (have e1 := (z_eq (a := w) (b := 0) (by omega) (by omega)).mp c86
                 rw [decide_eq_false (by omega)]; rfl)
              | (have e1 := (not_congr (z_eq (a := w) (b := 0) (by omega) (by omega))).mp c86
                 rw [decide_eq_true (by omega)]; rfl)
          · skip
            refine g_iconst (v := 1) dX3_clash_89 (by decide) ?_
            refine g_goto (tgt := 94) dX3_clash_90 (by decide) ?_
            refine g_iret dX3_clash_94 (fun ty h => by cases h; rfl) ?_
            refine ⟨?_, rfl⟩
            rw [cls_13 (by decide)]
            rw [decide_eq_true ha0, decide_eq_true hb0, Bool.true_and, Bool.true_and]
            first
              | (have e1 := (z_eq (a := w) (b := 0) (by omega) (by omega)).mp c86
                 rw [decide_eq_false (by omega)]; rfl)
              | (have e1 := (not_congr (z_eq (a := w) (b := 0) (by omega) (by omega))).mp c86
                 rw [decide_eq_true (by omega)]; rfl)
        · skip
          refine g_tabIn (off := 78) (tgt := 106) dX3_clash_28 (by decide) (by decide) (by decide) (by decide) ?_
          refine g_iconst (v := 0) dX3_clash_106 (by decide) ?_
          refine g_iret dX3_clash_107 (fun ty h => by cases h; rfl) ?_
          refine ⟨?_, rfl⟩
          rw [cls_24 (by decide)]
          rfl
        · skip
          refine g_tabIn (off := 67) (tgt := 95) dX3_clash_28 (by decide) (by decide) (by decide) (by decide) ?_
          refine g_iload_n dX3_clash_95 rfl ?_
          refine g_iconst (v := 1) dX3_clash_96 (by decide) ?_
          refine g_icmp_ne (tgt := 104) dX3_clash_97 (by decide) (fun c97 => ?_) (fun c97 => ?_)
          · skip
            refine g_iconst (v := 0) dX3_clash_104 (by decide) ?_
            refine g_iret dX3_clash_105 (fun ty h => by cases h; rfl) ?_
            refine ⟨?_, rfl⟩
            rw [cls_5]
            rw [decide_eq_true ha0, decide_eq_true hb0, Bool.true_and, Bool.true_and]
            first
              | (have e1 := (z_eq (a := w) (b := 1) (by omega) (by omega)).mp c97
                 rw [decide_eq_true (by omega)]; rfl)
              | (have e1 := (not_congr (z_eq (a := w) (b := 1) (by omega) (by omega))).mp c97
                 rw [decide_eq_false (by omega)]; rfl)
          · skip
            refine g_iconst (v := 1) dX3_clash_100 (by decide) ?_
            refine g_goto (tgt := 105) dX3_clash_101 (by decide) ?_
            refine g_iret dX3_clash_105 (fun ty h => by cases h; rfl) ?_
            refine ⟨?_, rfl⟩
            rw [cls_5]
            rw [decide_eq_true ha0, decide_eq_true hb0, Bool.true_and, Bool.true_and]
            first
              | (have e1 := (z_eq (a := w) (b := 1) (by omega) (by omega)).mp c97
                 rw [decide_eq_true (by omega)]; rfl)
              | (have e1 := (not_congr (z_eq (a := w) (b := 1) (by omega) (by omega))).mp c97
                 rw [decide_eq_false (by omega)]; rfl)
    · skip
      refine g_iconst (v := 0) dX3_clash_10 (by decide) ?_
      refine g_iret dX3_clash_11 (fun ty h => by cases h; rfl) ?_
      refine ⟨?_, rfl⟩
      have hab : a = -1 ∨ b = -1 := by
        first
          | (rw [z_m1] at c2; exact Or.inl ((z_eq (by omega) (by omega)).mp c2))
          | (rw [z_m1] at c7; exact Or.inr ((z_eq (by omega) (by omega)).mp c7))
      unfold clsB
      rcases hab with rfl | rfl
      · rfl
      · rw [show decide (0 ≤ (-1 : Int)) = false from rfl, Bool.false_and, Bool.and_false]; rfl
end
