section
variable {X : Nat × (Nat → Int32)} {d : Nat} {I : Nat → Nat → Int32} {J : Nat → Nat → Int64}
/-! ===== the law: start and loop ===== -/
def tab0 : Tab := (fun _ => none, fun _ _ => 0)
def pce0 : Pce := (0, 0, fun _ => 0, fun _ _ => 0)
theorem st_0 : StOK tab0 tab0 pce0 [] (fun _ => none) := ⟨fun r _ c h => (by cases h), fun r _ c h => (by cases h), ⟨by decide, by decide, Or.inl rfl, fun _ => (show (0 : Nat) < 6 by decide), fun _ _ => (show (0 : Nat) < 10 by decide)⟩, ⟨by decide, trivial⟩, fun k _ es h => (by cases h)⟩
theorem li_0 (h3 : ∀ i, i < 6 → I 3 i = -1) (h13 : ∀ i, i < 4 → I 13 i = -1) (h31 : ∀ i, i < 3 → I 31 i = -1) (h49 : ∀ q, q < 6 → I 49 q = -1) (h51 : ∀ q, q < 4 → I 51 q = -1) (h580 : I 58 0 = 0) (h58 : ∀ q, q < 3 → I 58 (q + 1) = -1) (hz : ∀ a, a ≠ 3 → a ≠ 13 → a ≠ 31 → a ≠ 49 → a ≠ 51 → a ≠ 58 → I a = fun _ => 0) (j1 : J 0 12 = 0) (j2 : J 0 13 = 1) (j3 : J 48 21 = 0) (j4 : J 48 22 = 1) : LI I J := by
  have z0 := hz 0 (by decide) (by decide) (by decide) (by decide) (by decide) (by decide)
  have z22 := hz 22 (by decide) (by decide) (by decide) (by decide) (by decide) (by decide)
  have z25 := hz 25 (by decide) (by decide) (by decide) (by decide) (by decide) (by decide)
  have z28 := hz 28 (by decide) (by decide) (by decide) (by decide) (by decide) (by decide)
  have z47 := hz 47 (by decide) (by decide) (by decide) (by decide) (by decide) (by decide)
  have z48 := hz 48 (by decide) (by decide) (by decide) (by decide) (by decide) (by decide)
  have z60 := hz 60 (by decide) (by decide) (by decide) (by decide) (by decide) (by decide)
  have z62 := hz 62 (by decide) (by decide) (by decide) (by decide) (by decide) (by decide)
  refine ⟨tab0, tab0, pce0, [], fun _ => none, 0, (0, 1), (0, fun _ => 0), ?_, ?_, st_0⟩
  · refine ⟨fun r hr => ⟨h3 r hr, fun c h => (by cases h)⟩, fun r hr => ⟨h13 r hr, fun c h => (by cases h)⟩, ⟨by rw [z22]; rfl, by rw [z22]; rfl, fun x hx => absurd hx (Nat.not_lt_zero x), fun x hx => absurd hx (Nat.not_lt_zero x)⟩, ⟨by rw [z25]; rfl, fun i e h => (by cases h), ⟨by rw [z25]; rfl, by rw [z25]; rfl, fun p hp => by rw [z28]; rfl, fun x _ hx => absurd hx (Nat.not_lt_zero x)⟩⟩, fun k hk => ⟨h31 k hk, fun es h => (by cases h)⟩, by rw [z0], ⟨j1, j2⟩, ⟨by rw [z0], fun j hj => by rw [z47]⟩⟩
  · refine ⟨fun r hr => ⟨h49 r hr, fun c h => (by cases h)⟩, fun r hr => ⟨h51 r hr, fun c h => (by cases h)⟩, ⟨by rw [z48]; rfl, by rw [z48]; rfl, fun x hx => absurd hx (Nat.not_lt_zero x), fun x hx => absurd hx (Nat.not_lt_zero x)⟩, ⟨h580, fun i e h => (by cases h), ⟨by rw [z48]; rfl, by rw [z48]; rfl, by rw [z48]; rfl, fun p hp => by rw [z60]; rfl, fun i hi => absurd hi (Nat.not_lt_zero i)⟩⟩, fun k hk => ⟨h58 k hk, fun es h => (by cases h)⟩, by rw [z48], ⟨j3, j4⟩, ⟨by rw [z48], fun j hj => by rw [z62]⟩⟩
theorem and63 (v : Int32) : ∃ w, w < 64 ∧ v &&& 63 = nI w := by
  refine ⟨v.toBitVec.toNat &&& 63, Nat.lt_succ_of_le Nat.and_le_right, ?_⟩
  have e : (v &&& 63).toBitVec = (nI (v.toBitVec.toNat &&& 63)).toBitVec := by
    apply BitVec.eq_of_toNat_eq
    have h1 : (v &&& 63).toBitVec.toNat = v.toBitVec.toNat &&& 63 := by
      rw [Int32.toBitVec_and, BitVec.toNat_and]
      rfl
    have h2 : (nI (v.toBitVec.toNat &&& 63)).toBitVec.toNat = (v.toBitVec.toNat &&& 63) % 2 ^ 32 := rfl
    rw [h1, h2, Nat.mod_eq_of_lt (Nat.lt_of_le_of_lt Nat.and_le_right (by decide))]
  exact Int32.toBitVec_inj.mp e
theorem law_sw {nm : String} {t w : Nat} {Φ : Option Value → Mem → Prop} (hw : w < 64) (hL : LI I J) (ht : 6 * t + 6 ≤ X.1) (hX : X.1 ≤ 384) (kk : ∀ I9 J9, LI I9 J9 → Go X (d + 9) 66 (MLw nm) 66 1364 [.ref 103, .ref 0, .ref 48, .int (nI (6 * t))] [] (I9, J9, rf0) Φ) : Go X (d + 9) 66 (MLw nm) 66 33 [.ref 103, .ref 0, .ref 48, .int (nI (6 * t))] [.int (nI w)] (I, J, rf0) Φ := by
  rcases (show w = 0 ∨ w = 1 ∨ w = 2 ∨ w = 3 ∨ w = 4 ∨ w = 5 ∨ w = 6 ∨ w = 7 ∨ w = 8 ∨ w = 9 ∨ w = 10 ∨ w = 11 ∨ w = 12 ∨ w = 13 ∨ w = 14 ∨ w = 15 ∨ w = 16 ∨ w = 17 ∨ w = 18 ∨ w = 19 ∨ w = 20 ∨ w = 21 ∨ w = 22 ∨ w = 23 ∨ w = 24 ∨ w = 25 ∨ w = 26 ∨ w = 27 ∨ w = 28 ∨ w = 29 ∨ w = 30 ∨ w = 31 ∨ w = 32 ∨ w = 33 ∨ w = 34 ∨ w = 35 ∨ w = 36 ∨ w = 37 ∨ w = 38 ∨ w = 39 ∨ w = 40 ∨ w = 41 ∨ w = 42 ∨ w = 43 ∨ w = 44 ∨ w = 45 ∨ w = 46 ∨ w = 47 ∨ w = 48 ∨ 49 ≤ w by omega) with rfl | rfl | rfl | rfl | rfl | rfl | rfl | rfl | rfl | rfl | rfl | rfl | rfl | rfl | rfl | rfl | rfl | rfl | rfl | rfl | rfl | rfl | rfl | rfl | rfl | rfl | rfl | rfl | rfl | rfl | rfl | rfl | rfl | rfl | rfl | rfl | rfl | rfl | rfl | rfl | rfl | rfl | rfl | rfl | rfl | rfl | rfl | rfl | rfl | h
  · exact g_tabIn (off := 211) (tgt := 244) dL_law_33 (by decide) (by decide) (by decide) (by decide) (lw_c0 hL ht hX kk)
  · exact g_tabIn (off := 244) (tgt := 277) dL_law_33 (by decide) (by decide) (by decide) (by decide) (lw_c1 hL ht hX kk)
  · exact g_tabIn (off := 287) (tgt := 320) dL_law_33 (by decide) (by decide) (by decide) (by decide) (lw_c2 hL ht hX kk)
  · exact g_tabIn (off := 320) (tgt := 353) dL_law_33 (by decide) (by decide) (by decide) (by decide) (lw_c3 hL ht hX kk)
  · exact g_tabIn (off := 343) (tgt := 376) dL_law_33 (by decide) (by decide) (by decide) (by decide) (lw_c4 hL ht hX kk)
  · exact g_tabIn (off := 406) (tgt := 439) dL_law_33 (by decide) (by decide) (by decide) (by decide) (lw_c5 hL ht hX kk)
  · exact g_tabIn (off := 429) (tgt := 462) dL_law_33 (by decide) (by decide) (by decide) (by decide) (lw_c6 hL ht hX kk)
  · exact g_tabIn (off := 462) (tgt := 495) dL_law_33 (by decide) (by decide) (by decide) (by decide) (lw_c7 hL ht hX kk)
  · exact g_tabIn (off := 505) (tgt := 538) dL_law_33 (by decide) (by decide) (by decide) (by decide) (lw_c8 hL ht hX kk)
  · exact g_tabIn (off := 528) (tgt := 561) dL_law_33 (by decide) (by decide) (by decide) (by decide) (lw_c9 hL ht hX kk)
  · exact g_tabIn (off := 551) (tgt := 584) dL_law_33 (by decide) (by decide) (by decide) (by decide) (lw_c10 hL ht hX kk)
  · exact g_tabIn (off := 584) (tgt := 617) dL_law_33 (by decide) (by decide) (by decide) (by decide) (lw_c11 hL ht hX kk)
  · exact g_tabIn (off := 617) (tgt := 650) dL_law_33 (by decide) (by decide) (by decide) (by decide) (lw_c12 hL ht hX kk)
  · exact g_tabIn (off := 650) (tgt := 683) dL_law_33 (by decide) (by decide) (by decide) (by decide) (lw_c13 hL ht hX kk)
  · exact g_tabIn (off := 663) (tgt := 696) dL_law_33 (by decide) (by decide) (by decide) (by decide) (lw_c14 hL ht hX kk)
  · exact g_tabIn (off := 696) (tgt := 729) dL_law_33 (by decide) (by decide) (by decide) (by decide) (lw_c15 hL ht hX kk)
  · exact g_tabIn (off := 729) (tgt := 762) dL_law_33 (by decide) (by decide) (by decide) (by decide) (lw_c16 hL ht hX kk)
  · exact g_tabIn (off := 752) (tgt := 785) dL_law_33 (by decide) (by decide) (by decide) (by decide) (lw_c17 hL ht hX kk)
  · exact g_tabIn (off := 775) (tgt := 808) dL_law_33 (by decide) (by decide) (by decide) (by decide) (lw_c18 hL ht hX kk)
  · exact g_tabIn (off := 788) (tgt := 821) dL_law_33 (by decide) (by decide) (by decide) (by decide) (lw_c19 hL ht hX kk)
  · exact g_tabIn (off := 811) (tgt := 844) dL_law_33 (by decide) (by decide) (by decide) (by decide) (lw_c20 hL ht hX kk)
  · exact g_tabIn (off := 824) (tgt := 857) dL_law_33 (by decide) (by decide) (by decide) (by decide) (lw_c21 hL ht hX kk)
  · exact g_tabIn (off := 847) (tgt := 880) dL_law_33 (by decide) (by decide) (by decide) (by decide) (lw_c22 hL ht hX kk)
  · exact g_tabIn (off := 870) (tgt := 903) dL_law_33 (by decide) (by decide) (by decide) (by decide) (lw_c23 hL ht hX kk)
  · exact g_tabIn (off := 893) (tgt := 926) dL_law_33 (by decide) (by decide) (by decide) (by decide) (lw_c24 hL ht hX kk)
  · exact g_tabIn (off := 906) (tgt := 939) dL_law_33 (by decide) (by decide) (by decide) (by decide) (lw_c25 hL ht hX kk)
  · exact g_tabIn (off := 929) (tgt := 962) dL_law_33 (by decide) (by decide) (by decide) (by decide) (lw_c26 hL ht hX kk)
  · exact g_tabIn (off := 952) (tgt := 985) dL_law_33 (by decide) (by decide) (by decide) (by decide) (lw_c27 hL ht hX kk)
  · exact g_tabIn (off := 965) (tgt := 998) dL_law_33 (by decide) (by decide) (by decide) (by decide) (lw_c28 hL ht hX kk)
  · exact g_tabIn (off := 978) (tgt := 1011) dL_law_33 (by decide) (by decide) (by decide) (by decide) (lw_c29 hL ht hX kk)
  · exact g_tabIn (off := 991) (tgt := 1024) dL_law_33 (by decide) (by decide) (by decide) (by decide) (lw_c30 hL ht hX kk)
  · exact g_tabIn (off := 1014) (tgt := 1047) dL_law_33 (by decide) (by decide) (by decide) (by decide) (lw_c31 hL ht hX kk)
  · exact g_tabIn (off := 1027) (tgt := 1060) dL_law_33 (by decide) (by decide) (by decide) (by decide) (lw_c32 hL ht hX kk)
  · exact g_tabIn (off := 1060) (tgt := 1093) dL_law_33 (by decide) (by decide) (by decide) (by decide) (lw_c33 hL ht hX kk)
  · exact g_tabIn (off := 1073) (tgt := 1106) dL_law_33 (by decide) (by decide) (by decide) (by decide) (lw_c34 hL ht hX kk)
  · exact g_tabIn (off := 1086) (tgt := 1119) dL_law_33 (by decide) (by decide) (by decide) (by decide) (lw_c35 hL ht hX kk)
  · exact g_tabIn (off := 1109) (tgt := 1142) dL_law_33 (by decide) (by decide) (by decide) (by decide) (lw_c36 hL ht hX kk)
  · exact g_tabIn (off := 1122) (tgt := 1155) dL_law_33 (by decide) (by decide) (by decide) (by decide) (lw_c37 hL ht hX kk)
  · exact g_tabIn (off := 1145) (tgt := 1178) dL_law_33 (by decide) (by decide) (by decide) (by decide) (lw_c38 hL ht hX kk)
  · exact g_tabIn (off := 1158) (tgt := 1191) dL_law_33 (by decide) (by decide) (by decide) (by decide) (lw_c39 hL ht hX kk)
  · exact g_tabIn (off := 1171) (tgt := 1204) dL_law_33 (by decide) (by decide) (by decide) (by decide) (lw_c40 hL ht hX kk)
  · exact g_tabIn (off := 1184) (tgt := 1217) dL_law_33 (by decide) (by decide) (by decide) (by decide) (lw_c41 hL ht hX kk)
  · exact g_tabIn (off := 1217) (tgt := 1250) dL_law_33 (by decide) (by decide) (by decide) (by decide) (lw_c42 hL ht hX kk)
  · exact g_tabIn (off := 1230) (tgt := 1263) dL_law_33 (by decide) (by decide) (by decide) (by decide) (lw_c43 hL ht hX kk)
  · exact g_tabIn (off := 1244) (tgt := 1277) dL_law_33 (by decide) (by decide) (by decide) (by decide) (lw_c44 hL ht hX kk)
  · exact g_tabIn (off := 1258) (tgt := 1291) dL_law_33 (by decide) (by decide) (by decide) (by decide) (lw_c45 hL ht hX kk)
  · exact g_tabIn (off := 1281) (tgt := 1314) dL_law_33 (by decide) (by decide) (by decide) (by decide) (lw_c46 hL ht hX kk)
  · exact g_tabIn (off := 1294) (tgt := 1327) dL_law_33 (by decide) (by decide) (by decide) (by decide) (lw_c47 hL ht hX kk)
  · exact g_tabIn (off := 1317) (tgt := 1350) dL_law_33 (by decide) (by decide) (by decide) (by decide) (lw_c48 hL ht hX kk)
  · exact g_tabOut (tgt := 1364) dL_law_33 (Or.inr (by rw [nI_toInt (by omega)]; omega)) (by decide) (kk _ _ hL)
theorem law_loop {nm : String} (hX : X.1 ≤ 384) : ∀ (I : Nat → Nat → Int32) (J : Nat → Nat → Int64), LI I J → Go X (d + 9) 66 (MLw nm) 66 18 [.ref 103, .ref 0, .ref 48, .int (nI (6 * 0))] [] (I, J, rf0) (RI (fun y _ => y = 1)) := by
  have e6 : nI X.1 - 6 = zI ((X.1 : Int) - 6) := by rw [show (6 : Int32) = zI 6 from rfl, nI_z, z_sub]
  refine go_ix (X.1 / 6) (fun t => ∀ (I : Nat → Nat → Int32) (J : Nat → Nat → Int64), LI I J → Go X (d + 9) 66 (MLw nm) 66 18 [.ref 103, .ref 0, .ref 48, .int (nI (6 * t))] [] (I, J, rf0) (RI (fun y _ => y = 1))) (fun t ht kk I J hL => ?_) (fun I J hL => ?_)
  · refine g_iload_n dL_law_18 rfl ?_
    refine g_aload_n dL_law_19 rfl ?_
    refine t_alro dL_law_20 (by decide) (by decide) rfl ?_
    refine g_bipush (v := 6) dL_law_21 (by decide) ?_
    refine g_isub dL_law_23 ?_
    rw [e6]
    refine g_icmp_gt (tgt := 1370) dL_law_24 (by decide) (fun c24 => ?_) (fun c24 => ?_)
    · rw [nI_z, z_lt (by omega) (by omega)] at c24
      omega
    · refine g_aload_n dL_law_27 rfl ?_
      refine g_iload_n dL_law_28 rfl ?_
      refine t_iaro dL_law_29 (by decide) (by decide) rfl (in_nI (by omega) (by omega)) ?_
      refine g_bipush (v := 63) dL_law_30 (by decide) ?_
      refine g_iand dL_law_32 ?_
      obtain ⟨w, hw, hv⟩ := and63 (X.2 (nI (6 * t)).toNatClampNeg)
      rw [hv]
      refine law_sw hw hL (by omega) hX (fun I9 J9 h9 => ?_)
      refine g_iinc dL_law_1364 rfl (show 3 < 4 by decide) ?_
      show Go _ _ _ _ _ _ [_, _, _, _] _ _ _
      refine g_goto (tgt := 18) dL_law_1367 (by decide) ?_
      rw [show nI (6 * t) + Int32.ofInt 6 = nI (6 * (t + 1)) by rw [show Int32.ofInt 6 = nI 6 from rfl, nI_add]; rfl]
      exact kk I9 J9 h9
  · refine g_iload_n dL_law_18 rfl ?_
    refine g_aload_n dL_law_19 rfl ?_
    refine t_alro dL_law_20 (by decide) (by decide) rfl ?_
    refine g_bipush (v := 6) dL_law_21 (by decide) ?_
    refine g_isub dL_law_23 ?_
    rw [e6]
    refine g_icmp_gt (tgt := 1370) dL_law_24 (by decide) (fun c24 => ?_) (fun c24 => ?_)
    · refine g_iconst (v := 1) dL_law_1370 (by decide) ?_
      exact g_iret dL_law_1371 (fun ty h => by cases h; rfl) rfl
    · rw [nI_z, z_lt (by omega) (by omega)] at c24
      omega
theorem law_go {nm : String} (hX : X.1 ≤ 384) : Go X (d + 9) 66 (MLw nm) 0 0 [.ref 103, .null, .null, .null] [] ((fun _ _ => 0 : Nat → Nat → Int32), (fun _ _ => 0 : Nat → Nat → Int64), rf0) (RI (fun y _ => y = 1)) := by
  refine t_new dL_law_0 nl_L_7 rfl (by decide) (by decide) rfl rfl rfl ?_
  refine g_dup dL_law_3 rfl ?_
  refine g_callIv dL_law_4 ln_L_9 rfl rfl (Nat.le_of_ble_eq_true rfl) (Nat.le_of_ble_eq_true rfl) (by decide) (by decide) rfl (ct_i0 (fun _ _ => rfl) (fun _ _ => rfl) (fun _ _ => rfl)) rfl (fun m4 h4 => ?_)
  obtain ⟨g1, g2, g3, rfl, hg1, hg2, hg3⟩ := h4
  refine g_astore_n dL_law_7 (show 1 < 4 by decide) ?_
  show Go _ _ _ _ _ _ [_, _, _, _] _ _ _
  have hI : ∀ a, 48 ≤ a → upR (upR (upR (fun _ _ => 0 : Nat → Nat → Int32) 3 g1) 13 g2) 31 g3 a = fun _ => 0 := fun a ha => by rw [upR_n (by omega), upR_n (by omega), upR_n (by omega)]
  have hJ : ∀ a, 48 ≤ a → upR (fun _ _ => 0 : Nat → Nat → Int64) 0 (vp_updL (fun _ => 0) 13 1) a = fun _ => 0 := fun a ha => by rw [upR_n (by omega)]
  refine t_new dL_law_8 nl_L_10 rfl (by decide) (by decide) rfl (hI _ (by decide)) (hJ _ (by decide)) ?_
  refine g_dup dL_law_11 rfl ?_
  refine g_callIv dL_law_12 ln_L_12 rfl rfl (Nat.le_of_ble_eq_true rfl) (Nat.le_of_ble_eq_true rfl) (by decide) (by decide) rfl (ct_i48 (fun a ha => hI a (by omega)) (fun a ha => hJ a (by omega))) rfl (fun m12 h12 => ?_)
  obtain ⟨I2, rfl, hf, h49, h51, h580, h58⟩ := h12
  refine g_astore_n dL_law_15 (show 2 < 4 by decide) ?_
  show Go _ _ _ _ _ _ [_, _, _, _] _ _ _
  refine g_iconst (v := 0) dL_law_16 (by decide) ?_
  refine g_istore_n dL_law_17 (show 3 < 4 by decide) ?_
  show Go _ _ _ _ _ _ [_, _, _, _] _ _ _
  refine law_loop hX _ _ (li_0 (fun i hi => ?_) (fun i hi => ?_) (fun i hi => ?_) h49 h51 (h580.trans rfl) h58 (fun a n1 n2 n3 n4 n5 n6 => ?_) rfl rfl rfl rfl)
  · rw [hf 3 (by decide), upR_n (by decide), upR_n (by decide), upR_s]; exact hg1 i hi
  · rw [hf 13 (by decide), upR_n (by decide), upR_s]; exact hg2 i hi
  · rw [hf 31 (by decide), upR_s]; exact hg3 i hi
  · rw [hf a (by simp; omega), upR_n n3, upR_n n2, upR_n n1]
end
