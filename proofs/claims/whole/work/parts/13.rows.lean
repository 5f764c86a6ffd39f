section
variable {X : Nat × (Nat → Int32)} {d : Nat} {I : Nat → Nat → Int32} {J : Nat → Nat → Int64}
theorem ct_make_R {j c : Nat} (hj : j < 6) (hc : c ≤ 40) : Ct X (d + 2) 66 M_X5_make 66 [.ref 1, .int (nI j), .int (nI c)] (I, J, rf0) (RV (fun m => ∃ g, m = (upR (upR I 3 (upd (I 3) j (nI c))) (5 + j) g, J, rf0) ∧ ∀ i, i < 40 → g i = 0)) := by
  show Go _ _ _ _ _ _ [_, _, _] _ _ _
  refine g_aload_n dX5_make_0 rfl ?_
  refine t_getR dX5_make_1 fl_X5_14 rfl (by decide) rfl (by decide) rfl ?_
  refine g_iload_n dX5_make_4 rfl ?_
  refine g_callVi dX5_make_5 ln_X5_23 ⟨_, rfl⟩ rfl (by decide) ⟨_, _, rfl⟩ rfl (Nat.le_of_ble_eq_true rfl) (Nat.le_of_ble_eq_true rfl) (ct_isNumber sz_rows) rfl (fun r5 m5 h5 => ?_)
  obtain ⟨rfl, rfl⟩ := h5
  refine g_if_eq (tgt := 21) dX5_make_8 (by decide) (fun c8 => ?_) (fun c8 => ?_)
  · exact absurd c8 (by rw [inR_nI (by decide) hj]; decide)
  · skip
    refine g_iload_n dX5_make_11 rfl ?_
    refine g_if_lt (tgt := 21) dX5_make_12 (by decide) (fun c12 => ?_) (fun c12 => ?_)
    · exact absurd c12 (nI_neg (by omega))
    · skip
      refine g_iload_n dX5_make_15 rfl ?_
      refine g_bipush (v := 40) dX5_make_16 (by decide) ?_
      refine g_icmp_le (tgt := 22) dX5_make_18 (by decide) (fun c18 => ?_) (fun c18 => ?_)
      · skip
        refine g_aload_n dX5_make_22 rfl ?_
        refine t_getR dX5_make_23 fl_X5_14 rfl (by decide) rfl (by decide) rfl ?_
        refine g_iload_n dX5_make_26 rfl ?_
        refine g_iload_n dX5_make_27 rfl ?_
        refine g_callVv dX5_make_28 ln_X5_27 rfl rfl (by decide) ⟨_, _, rfl⟩ rfl (Nat.le_of_ble_eq_true rfl) (Nat.le_of_ble_eq_true rfl) (ct_become sz_rows) rfl (fun m28 h28 => ?_)
        subst h28
        rw [bec_nI (by decide) hj]
        refine g_aload_n dX5_make_31 rfl ?_
        refine t_getR dX5_make_32 fl_X5_20 rfl (by decide) rfl (by decide) rfl ?_
        refine g_iload_n dX5_make_35 rfl ?_
        refine t_aald dX5_make_36 rfl (Or.inl rfl) (by decide) (in_nI hj (by decide)) (rf_row hj) ?_
        refine g_iconst (v := 0) dX5_make_37 (by decide) ?_
        refine g_callSv dX5_make_38 ln_X5_31 rfl rfl (Nat.le_of_ble_eq_true rfl) (Nat.le_of_ble_eq_true rfl) (ct_fill0 (shp_row hj) (by omega) (by decide)) rfl (fun m38 h38 => ?_)
        obtain ⟨g, rfl, hg, -⟩ := h38
        refine g_vret dX5_make_41 ?_
        exact ⟨g, rfl, hg⟩
      · exact absurd (nI_le hc (by decide)) c18
theorem ct_make_T {j c : Nat} (hj : j < 4) (hc : c ≤ 80) : Ct X (d + 2) 66 M_X9_make 66 [.ref 11, .int (nI j), .int (nI c)] (I, J, rf0) (RV (fun m => ∃ g, m = (upR (upR I 13 (upd (I 13) j (nI c))) (15 + j) g, J, rf0) ∧ ∀ i, i < 80 → g i = 32)) := by
  show Go _ _ _ _ _ _ [_, _, _] _ _ _
  refine g_aload_n dX9_make_0 rfl ?_
  refine t_getR dX9_make_1 fl_X9_14 rfl (by decide) rfl (by decide) rfl ?_
  refine g_iload_n dX9_make_4 rfl ?_
  refine g_callVi dX9_make_5 ln_X9_23 ⟨_, rfl⟩ rfl (by decide) ⟨_, _, rfl⟩ rfl (Nat.le_of_ble_eq_true rfl) (Nat.le_of_ble_eq_true rfl) (ct_isNumber sz_texts) rfl (fun r5 m5 h5 => ?_)
  obtain ⟨rfl, rfl⟩ := h5
  refine g_if_eq (tgt := 21) dX9_make_8 (by decide) (fun c8 => ?_) (fun c8 => ?_)
  · exact absurd c8 (by rw [inR_nI (by decide) hj]; decide)
  · skip
    refine g_iload_n dX9_make_11 rfl ?_
    refine g_if_lt (tgt := 21) dX9_make_12 (by decide) (fun c12 => ?_) (fun c12 => ?_)
    · exact absurd c12 (nI_neg (by omega))
    · skip
      refine g_iload_n dX9_make_15 rfl ?_
      refine g_bipush (v := 80) dX9_make_16 (by decide) ?_
      refine g_icmp_le (tgt := 22) dX9_make_18 (by decide) (fun c18 => ?_) (fun c18 => ?_)
      · skip
        refine g_aload_n dX9_make_22 rfl ?_
        refine t_getR dX9_make_23 fl_X9_14 rfl (by decide) rfl (by decide) rfl ?_
        refine g_iload_n dX9_make_26 rfl ?_
        refine g_iload_n dX9_make_27 rfl ?_
        refine g_callVv dX9_make_28 ln_X9_27 rfl rfl (by decide) ⟨_, _, rfl⟩ rfl (Nat.le_of_ble_eq_true rfl) (Nat.le_of_ble_eq_true rfl) (ct_become sz_texts) rfl (fun m28 h28 => ?_)
        subst h28
        rw [bec_nI (by decide) hj]
        refine g_aload_n dX9_make_31 rfl ?_
        refine t_getR dX9_make_32 fl_X9_20 rfl (by decide) rfl (by decide) rfl ?_
        refine g_iload_n dX9_make_35 rfl ?_
        refine t_aald dX9_make_36 rfl (Or.inr rfl) (by decide) (in_nI hj (by decide)) (rf_txt hj) ?_
        refine g_bipush (v := 32) dX9_make_37 (by decide) ?_
        refine g_callSv dX9_make_39 ln_X9_31 rfl rfl (Nat.le_of_ble_eq_true rfl) (Nat.le_of_ble_eq_true rfl) (ct_fill1 (shp_txt hj) (by omega) (by decide)) rfl (fun m39 h39 => ?_)
        obtain ⟨g, rfl, hg, -⟩ := h39
        refine g_vret dX9_make_42 ?_
        exact ⟨g, rfl, hg⟩
      · exact absurd (nI_le hc (by decide)) c18
theorem ct_get_R {j s t : Nat} (hj : j < 6) (hs : I 3 j = nI s) (h40 : s ≤ 40) (ht : t < s) : Ct X (d + 3) 66 M_X5_get 66 [.ref 1, .int (nI j), .int (nI t)] (I, J, rf0) (RI (fun x m => x = I (5 + j) t ∧ m = (I, J, rf0))) := by
  show Go _ _ _ _ _ _ [_, _, _] _ _ _
  refine g_aload_n dX5_get_0 rfl ?_
  refine t_getR dX5_get_1 fl_X5_14 rfl (by decide) rfl (by decide) rfl ?_
  refine g_iload_n dX5_get_4 rfl ?_
  refine g_iload_n dX5_get_5 rfl ?_
  refine g_iconst (v := 1) dX5_get_6 (by decide) ?_
  refine g_callVi dX5_get_7 ln_X5_37 ⟨_, rfl⟩ rfl (by decide) ⟨_, _, rfl⟩ rfl (Nat.le_of_ble_eq_true rfl) (Nat.le_of_ble_eq_true rfl) (ct_holds sz_rows) rfl (fun r7 m7 h7 => ?_)
  obtain ⟨rfl, rfl⟩ := h7
  refine g_if_eq (tgt := 24) dX5_get_10 (by decide) (fun c10 => ?_) (fun c10 => ?_)
  · exact absurd c10 (by rw [show (1 : Int32) = nI 1 from rfl, hld_nI (by decide) hj hs (by omega) (by omega)]; decide)
  · skip
    refine g_aload_n dX5_get_13 rfl ?_
    refine t_getR dX5_get_14 fl_X5_20 rfl (by decide) rfl (by decide) rfl ?_
    refine g_iload_n dX5_get_17 rfl ?_
    refine t_aald dX5_get_18 rfl (Or.inl rfl) (by decide) (in_nI hj (by decide)) (rf_row hj) ?_
    refine g_iload_n dX5_get_19 rfl ?_
    refine t_iald dX5_get_20 (shp_row hj) (by omega) (in_nI (by omega) (by decide)) ?_
    refine g_goto (tgt := 25) dX5_get_21 (by decide) ?_
    refine g_iret dX5_get_25 (fun ty h => by cases h; rfl) ?_
    exact ⟨by rw [cl_nI (by omega)], rfl⟩
theorem ct_set_R {j s t : Nat} (hj : j < 6) (hs : I 3 j = nI s) (h40 : s ≤ 40) (ht : t < s) {v : Int32} : Ct X (d + 3) 66 M_X5_set 66 [.ref 1, .int (nI j), .int (nI t), .int v] (I, J, rf0) (RV (fun m => m = (upR I (5 + j) (upd (I (5 + j)) t v), J, rf0))) := by
  show Go _ _ _ _ _ _ [_, _, _, _] _ _ _
  refine g_aload_n dX5_set_0 rfl ?_
  refine t_getR dX5_set_1 fl_X5_14 rfl (by decide) rfl (by decide) rfl ?_
  refine g_iload_n dX5_set_4 rfl ?_
  refine g_iload_n dX5_set_5 rfl ?_
  refine g_iconst (v := 1) dX5_set_6 (by decide) ?_
  refine g_callVi dX5_set_7 ln_X5_37 ⟨_, rfl⟩ rfl (by decide) ⟨_, _, rfl⟩ rfl (Nat.le_of_ble_eq_true rfl) (Nat.le_of_ble_eq_true rfl) (ct_holds sz_rows) rfl (fun r7 m7 h7 => ?_)
  obtain ⟨rfl, rfl⟩ := h7
  refine g_if_eq (tgt := 22) dX5_set_10 (by decide) (fun c10 => ?_) (fun c10 => ?_)
  · exact absurd c10 (by rw [show (1 : Int32) = nI 1 from rfl, hld_nI (by decide) hj hs (by omega) (by omega)]; decide)
  · skip
    refine g_aload_n dX5_set_13 rfl ?_
    refine t_getR dX5_set_14 fl_X5_20 rfl (by decide) rfl (by decide) rfl ?_
    refine g_iload_n dX5_set_17 rfl ?_
    refine t_aald dX5_set_18 rfl (Or.inl rfl) (by decide) (in_nI hj (by decide)) (rf_row hj) ?_
    refine g_iload_n dX5_set_19 rfl ?_
    refine g_iload_n dX5_set_20 rfl ?_
    refine t_iast dX5_set_21 (shp_row hj) (by omega) (in_nI (by omega) (by decide)) ?_
    refine g_vret dX5_set_22 ?_
    rw [cl_nI (by omega)]
theorem ct_set_T {j s t : Nat} (hj : j < 4) (hs : I 13 j = nI s) (h80 : s ≤ 80) (ht : t < s) {v : Int32} : Ct X (d + 3) 66 M_X9_set 66 [.ref 11, .int (nI j), .int (nI t), .int v] (I, J, rf0) (RV (fun m => m = (upR I (15 + j) (upd (I (15 + j)) t v.toInt8.toInt32), J, rf0))) := by
  show Go _ _ _ _ _ _ [_, _, _, _] _ _ _
  refine g_aload_n dX9_set_0 rfl ?_
  refine t_getR dX9_set_1 fl_X9_14 rfl (by decide) rfl (by decide) rfl ?_
  refine g_iload_n dX9_set_4 rfl ?_
  refine g_iload_n dX9_set_5 rfl ?_
  refine g_iconst (v := 1) dX9_set_6 (by decide) ?_
  refine g_callVi dX9_set_7 ln_X9_37 ⟨_, rfl⟩ rfl (by decide) ⟨_, _, rfl⟩ rfl (Nat.le_of_ble_eq_true rfl) (Nat.le_of_ble_eq_true rfl) (ct_holds sz_texts) rfl (fun r7 m7 h7 => ?_)
  obtain ⟨rfl, rfl⟩ := h7
  refine g_if_eq (tgt := 23) dX9_set_10 (by decide) (fun c10 => ?_) (fun c10 => ?_)
  · exact absurd c10 (by rw [show (1 : Int32) = nI 1 from rfl, hld_nI (by decide) hj hs (by omega) (by omega)]; decide)
  · skip
    refine g_aload_n dX9_set_13 rfl ?_
    refine t_getR dX9_set_14 fl_X9_20 rfl (by decide) rfl (by decide) rfl ?_
    refine g_iload_n dX9_set_17 rfl ?_
    refine t_aald dX9_set_18 rfl (Or.inr rfl) (by decide) (in_nI hj (by decide)) (rf_txt hj) ?_
    refine g_iload_n dX9_set_19 rfl ?_
    refine g_iload_n dX9_set_20 rfl ?_
    refine g_i2b dX9_set_21 ?_
    refine t_bast dX9_set_22 (shp_txt hj) (by omega) (in_nI (by omega) (by decide)) ?_
    refine g_vret dX9_set_23 ?_
    rw [cl_nI (by omega), pk_vb]
theorem ct_get_T {j t : Nat} (hj : j < 4) (ht : t < 80) : Ct X d 66 M_X9_get 66 [.ref 11, .int (nI j), .int (nI t)] (I, J, rf0) (RI (fun x m => x = I (15 + j) t ∧ m = (I, J, rf0))) := by
  show Go _ _ _ _ _ _ [_, _, _] _ _ _
  refine g_iload_n dX9_get_0 rfl ?_
  refine g_if_lt (tgt := 30) dX9_get_1 (by decide) (fun c1 => ?_) (fun c1 => ?_)
  · exact absurd c1 (nI_neg (by omega))
  · skip
    refine g_iload_n dX9_get_4 rfl ?_
    refine g_iconst (v := 4) dX9_get_5 (by decide) ?_
    refine g_icmp_ge (tgt := 30) dX9_get_6 (by decide) (fun c6 => ?_) (fun c6 => ?_)
    · exact absurd (nI_lt hj (by decide)) (Int32.not_lt.mpr c6)
    · skip
      refine g_iload_n dX9_get_9 rfl ?_
      refine g_if_lt (tgt := 30) dX9_get_10 (by decide) (fun c10 => ?_) (fun c10 => ?_)
      · exact absurd c10 (nI_neg (by omega))
      · skip
        refine g_iload_n dX9_get_13 rfl ?_
        refine g_bipush (v := 80) dX9_get_14 (by decide) ?_
        refine g_icmp_ge (tgt := 30) dX9_get_16 (by decide) (fun c16 => ?_) (fun c16 => ?_)
        · exact absurd (nI_lt ht (by decide)) (Int32.not_lt.mpr c16)
        · skip
          refine g_aload_n dX9_get_19 rfl ?_
          refine t_getR dX9_get_20 fl_X9_20 rfl (by decide) rfl (by decide) rfl ?_
          refine g_iload_n dX9_get_23 rfl ?_
          refine t_aald dX9_get_24 rfl (Or.inr rfl) (by decide) (in_nI hj (by decide)) (rf_txt hj) ?_
          refine g_iload_n dX9_get_25 rfl ?_
          refine t_bald dX9_get_26 (shp_txt hj) (by omega) (in_nI ht (by decide)) ?_
          refine g_goto (tgt := 32) dX9_get_27 (by decide) ?_
          refine g_iret dX9_get_32 (fun ty h => by cases h; rfl) ?_
          exact ⟨by rw [cl_nI (by omega)], rfl⟩
theorem ct_move_R {j s a k u b c : Nat} (hj : j < 6) (hs : I 3 j = nI s) (h40 : s ≤ 40) (ha : a + c ≤ s) (hk : k < 6) (hu : I 3 k = nI u) (hu40 : u ≤ 40) (hb : b + c ≤ u) : Ct X (d + 3) 66 M_X5_move 66 [.ref 1, .int (nI j), .int (nI a), .int (nI k), .int (nI b), .int (nI c)] (I, J, rf0) (RV (fun m => m = (upR I (5 + k) (va_cpy (I (5 + j)) (I (5 + k)) a b c), J, rf0))) := by
  show Go _ _ _ _ _ _ [_, _, _, _, _, _] _ _ _
  refine g_aload_n dX5_move_0 rfl ?_
  refine t_getR dX5_move_1 fl_X5_14 rfl (by decide) rfl (by decide) rfl ?_
  refine g_iload_n dX5_move_4 rfl ?_
  refine g_iload_n dX5_move_5 rfl ?_
  refine g_iload dX5_move_6 rfl ?_
  refine g_callVi dX5_move_8 ln_X5_37 ⟨_, rfl⟩ rfl (by decide) ⟨_, _, rfl⟩ rfl (Nat.le_of_ble_eq_true rfl) (Nat.le_of_ble_eq_true rfl) (ct_holds sz_rows) rfl (fun r8 m8 h8 => ?_)
  obtain ⟨rfl, rfl⟩ := h8
  refine g_if_eq (tgt := 29) dX5_move_11 (by decide) (fun c11 => ?_) (fun c11 => ?_)
  · exact absurd c11 (by rw [hld_nI (by decide) hj hs (by omega) ha]; decide)
  · skip
    refine g_aload_n dX5_move_14 rfl ?_
    refine t_getR dX5_move_15 fl_X5_14 rfl (by decide) rfl (by decide) rfl ?_
    refine g_iload_n dX5_move_18 rfl ?_
    refine g_iload dX5_move_19 rfl ?_
    refine g_iload dX5_move_21 rfl ?_
    refine g_callVi dX5_move_23 ln_X5_37 ⟨_, rfl⟩ rfl (by decide) ⟨_, _, rfl⟩ rfl (Nat.le_of_ble_eq_true rfl) (Nat.le_of_ble_eq_true rfl) (ct_holds sz_rows) rfl (fun r23 m23 h23 => ?_)
    obtain ⟨rfl, rfl⟩ := h23
    refine g_if_ne (tgt := 30) dX5_move_26 (by decide) (fun c26 => ?_) (fun c26 => ?_)
    · skip
      refine g_aload_n dX5_move_30 rfl ?_
      refine t_getR dX5_move_31 fl_X5_20 rfl (by decide) rfl (by decide) rfl ?_
      refine g_iload_n dX5_move_34 rfl ?_
      refine t_aald dX5_move_35 rfl (Or.inl rfl) (by decide) (in_nI hj (by decide)) (rf_row hj) ?_
      refine g_iload_n dX5_move_36 rfl ?_
      refine g_aload_n dX5_move_37 rfl ?_
      refine t_getR dX5_move_38 fl_X5_20 rfl (by decide) rfl (by decide) rfl ?_
      refine g_iload_n dX5_move_41 rfl ?_
      refine t_aald dX5_move_42 rfl (Or.inl rfl) (by decide) (in_nI hk (by decide)) (rf_row hk) ?_
      refine g_iload dX5_move_43 rfl ?_
      refine g_iload dX5_move_45 rfl ?_
      refine t_copy dX5_move_47 ac_X5_41 (shp_row hj) (shp_row hk) (by omega) (by omega) (nI_neg (by omega)) (nI_neg (by omega)) (nI_neg (by omega)) (by rw [cl_nI (by omega), cl_nI (by omega)]; omega) (by rw [cl_nI (by omega), cl_nI (by omega)]; omega) (Nat.le_of_ble_eq_true rfl) ?_
      refine g_vret dX5_move_50 ?_
      rw [cl_nI (by omega), cl_nI (by omega), cl_nI (by omega)]
    · exact absurd c26 (by rw [hld_nI (by decide) hk hu (by omega) hb]; decide)
def sumL (f : Nat → Int32) (n : Nat) : Int64 := foldN (fun i a => a + (f i).toInt64) 0 n
def dgV (h : Int64) (v : Int32) : Int64 := 31 * h + v.toInt64
def dgRow (f : Nat → Int32) (n : Nat) (h : Int64) : Int64 := foldN (fun i a => dgV a (f i)) h n
def dgOne (t : Tab) (r : Nat) (h : Int64) : Int64 := dgRow (t.2 r) ((t.1 r).getD 0) (dgV h (szI (t.1 r)))
def dgTab (n : Nat) (t : Tab) (h : Int64) : Int64 := foldN (fun r a => dgOne t r a) h n
theorem szI_ex (o : Option Nat) : szI o ≤ nI (o.getD 0) := by
  cases o with
  | none => decide
  | some c => exact Int32.le_refl _
theorem szI_in {o : Option Nat} {i : Nat} (h : i < o.getD 0) : ∃ c, o = some c ∧ i < c := by
  cases o with
  | none => exact absurd h (by simp)
  | some c => exact ⟨c, rfl, h⟩
theorem ct_sum_R {j s : Nat} (hj : j < 6) (hs : I 3 j = nI s) (h40 : s ≤ 40) : Ct X (d + 4) 66 M_X5_sum 66 [.ref 1, .int (nI j)] (I, J, rf0) (RJ (fun x m => x = sumL (I (5 + j)) s ∧ m = (I, J, rf0))) := by
  show Go _ _ _ _ _ _ [_, _, _, _, _, _] _ _ _
  refine g_lconst (v := 0) dX5_sum_0 (by decide) ?_
  refine g_lstore_n dX5_sum_1 (by decide) ?_
  show Go _ _ _ _ _ _ [_, _, _, _, _, _] _ _ _
  refine g_aload_n dX5_sum_2 rfl ?_
  refine t_getR dX5_sum_3 fl_X5_14 rfl (by decide) rfl (by decide) rfl ?_
  refine g_iload_n dX5_sum_6 rfl ?_
  refine g_callVi dX5_sum_7 ln_X5_47 ⟨_, rfl⟩ rfl (by decide) ⟨_, _, rfl⟩ rfl (Nat.le_of_ble_eq_true rfl) (Nat.le_of_ble_eq_true rfl) (ct_of sz_rows) rfl (fun r7 m7 h7 => ?_)
  obtain ⟨rfl, rfl⟩ := h7
  rw [ofV_nI (by decide) hj, hs]
  refine g_istore dX5_sum_10 (by decide) ?_
  show Go _ _ _ _ _ _ [_, _, _, _, _, _] _ _ _
  refine g_iconst (v := 0) dX5_sum_12 (by decide) ?_
  refine g_istore dX5_sum_13 (by decide) ?_
  show Go _ _ _ _ _ _ [_, _, _, _, _, _] _ _ _
  refine go_for (fun i a => a + (I (5 + j) i).toInt64) (0 : Int64) s (fun i a => Go X (d + 4) 66 M_X5_sum 66 15 [.ref 1, .int (nI j), .long a, .null, .int (nI s), .int (nI i)] [] (I, J, rf0) (RJ (fun x m => x = sumL (I (5 + j)) s ∧ m = (I, J, rf0)))) (fun i hi kk => ?_) ?_
  · skip
    refine g_iload dX5_sum_15 rfl ?_
    refine g_iload dX5_sum_17 rfl ?_
    refine g_icmp_ge (tgt := 39) dX5_sum_19 (by decide) (fun c19 => ?_) (fun c19 => ?_)
    · exact absurd (nI_lt hi (by omega)) (Int32.not_lt.mpr c19)
    · skip
      refine g_lload_n dX5_sum_22 rfl ?_
      refine g_aload_n dX5_sum_23 rfl ?_
      refine g_iload_n dX5_sum_24 rfl ?_
      refine g_iload dX5_sum_25 rfl ?_
      refine g_callVi dX5_sum_27 ln_X5_51 ⟨_, rfl⟩ rfl (by decide) ⟨_, _, rfl⟩ rfl (Nat.le_of_ble_eq_true rfl) (Nat.le_of_ble_eq_true rfl) (ct_get_R hj hs h40 hi) rfl (fun r27 m27 h27 => ?_)
      obtain ⟨rfl, rfl⟩ := h27
      refine g_i2l dX5_sum_30 ?_
      refine g_ladd dX5_sum_31 ?_
      refine g_lstore_n dX5_sum_32 (by decide) ?_
      show Go _ _ _ _ _ _ [_, _, _, _, _, _] _ _ _
      refine g_iinc dX5_sum_33 rfl (by decide) ?_
      show Go _ _ _ _ _ _ [_, _, _, _, _, _] _ _ _
      refine g_goto (tgt := 15) dX5_sum_36 (by decide) ?_
      rw [nI_inc]
      exact kk
  · skip
    refine g_iload dX5_sum_15 rfl ?_
    refine g_iload dX5_sum_17 rfl ?_
    refine g_icmp_ge (tgt := 39) dX5_sum_19 (by decide) (fun c19 => ?_) (fun c19 => ?_)
    · skip
      refine g_lload_n dX5_sum_39 rfl ?_
      refine g_lret dX5_sum_40 rfl ?_
      exact ⟨rfl, rfl⟩
    · exact absurd (Int32.le_refl _) c19
theorem ct_dig_R {t : Tab} {h : Int64} (hT : RwC t I) (hO : TabOK 6 40 t) : Ct X (d + 4) 66 M_X5_digestOn 66 [.ref 1, .long h] (I, J, rf0) (RJ (fun x m => x = dgTab 6 t h ∧ m = (I, J, rf0))) := by
  show Go _ _ _ _ _ _ [_, _, _, _, _, _, _, _] _ _ _
  refine g_lload_n dX5_digestOn_0 rfl ?_
  refine g_lstore_n dX5_digestOn_1 (by decide) ?_
  show Go _ _ _ _ _ _ [_, _, _, _, _, _, _, _] _ _ _
  refine g_iconst (v := 0) dX5_digestOn_2 (by decide) ?_
  refine g_istore dX5_digestOn_3 (by decide) ?_
  show Go _ _ _ _ _ _ [_, _, _, _, _, _, _, _] _ _ _
  refine go_for (fun r a => dgOne t r a) h 6 (fun r a => Go X (d + 4) 66 M_X5_digestOn 66 5 [.ref 1, .long h, .null, .long a, .null, .int (nI r), .null, .null] [] (I, J, rf0) (RJ (fun x m => x = dgTab 6 t h ∧ m = (I, J, rf0)))) (fun r hr kko => ?_) ?_
  · skip
    refine g_iload dX5_digestOn_5 rfl ?_
    refine g_bipush (v := 6) dX5_digestOn_7 (by decide) ?_
    refine g_icmp_ge (tgt := 71) dX5_digestOn_9 (by decide) (fun c9 => ?_) (fun c9 => ?_)
    · exact absurd (nI_lt hr (by decide)) (Int32.not_lt.mpr c9)
    · skip
      refine g_aload_n dX5_digestOn_12 rfl ?_
      refine t_getR dX5_digestOn_13 fl_X5_14 rfl (by decide) rfl (by decide) rfl ?_
      refine g_iload dX5_digestOn_16 rfl ?_
      refine g_callVi dX5_digestOn_18 ln_X5_47 ⟨_, rfl⟩ rfl (by decide) ⟨_, _, rfl⟩ rfl (Nat.le_of_ble_eq_true rfl) (Nat.le_of_ble_eq_true rfl) (ct_of sz_rows) rfl (fun r18 m18 h18 => ?_)
      obtain ⟨rfl, rfl⟩ := h18
      rw [ofV_nI (by decide) hr, (hT r hr).1]
      refine g_istore dX5_digestOn_21 (by decide) ?_
      show Go _ _ _ _ _ _ [_, _, _, _, _, _, _, _] _ _ _
      refine g_ldc2 dX5_digestOn_23 tb_980 ?_
      refine g_lload_n dX5_digestOn_26 rfl ?_
      refine g_lmul dX5_digestOn_27 ?_
      refine g_iload dX5_digestOn_28 rfl ?_
      refine g_i2l dX5_digestOn_30 ?_
      refine g_ladd dX5_digestOn_31 ?_
      refine g_lstore_n dX5_digestOn_32 (by decide) ?_
      show Go _ _ _ _ _ _ [_, _, _, _, _, _, _, _] _ _ _
      refine g_iconst (v := 0) dX5_digestOn_33 (by decide) ?_
      refine g_istore dX5_digestOn_34 (by decide) ?_
      show Go _ _ _ _ _ _ [_, _, _, _, _, _, _, _] _ _ _
      refine go_for (fun i a => dgV a (t.2 r i)) (dgV (foldN (fun r a => dgOne t r a) h r) (szI (t.1 r))) ((t.1 r).getD 0) (fun i a => Go X (d + 4) 66 M_X5_digestOn 66 36 [.ref 1, .long h, .null, .long a, .null, .int (nI r), .int (szI (t.1 r)), .int (nI i)] [] (I, J, rf0) (RJ (fun x m => x = dgTab 6 t h ∧ m = (I, J, rf0)))) (fun i hi kki => ?_) ?_
      · obtain ⟨c, htr, hic⟩ := szI_in hi
        have hc := hO r hr c htr
        have hs : I 3 r = nI c := by have := (hT r hr).1; rw [htr] at this; exact this
        refine g_iload dX5_digestOn_36 rfl ?_
        refine g_iload dX5_digestOn_38 rfl ?_
        refine g_icmp_ge (tgt := 65) dX5_digestOn_40 (by decide) (fun c40 => ?_) (fun c40 => ?_)
        · exact absurd (nI_lt hic (by omega)) (Int32.not_lt.mpr (by rw [htr] at c40; exact c40))
        · skip
          refine g_ldc2 dX5_digestOn_43 tb_980 ?_
          refine g_lload_n dX5_digestOn_46 rfl ?_
          refine g_lmul dX5_digestOn_47 ?_
          refine g_aload_n dX5_digestOn_48 rfl ?_
          refine g_iload dX5_digestOn_49 rfl ?_
          refine g_iload dX5_digestOn_51 rfl ?_
          refine g_callVi dX5_digestOn_53 ln_X5_51 ⟨_, rfl⟩ rfl (by decide) ⟨_, _, rfl⟩ rfl (Nat.le_of_ble_eq_true rfl) (Nat.le_of_ble_eq_true rfl) (ct_get_R hr hs hc hic) rfl (fun r53 m53 h53 => ?_)
          obtain ⟨rfl, rfl⟩ := h53
          rw [show I (5 + r) i = t.2 r i by have := (hT r hr).2 c htr i hic; rwa [Nat.zero_add] at this]
          refine g_i2l dX5_digestOn_56 ?_
          refine g_ladd dX5_digestOn_57 ?_
          refine g_lstore_n dX5_digestOn_58 (by decide) ?_
          show Go _ _ _ _ _ _ [_, _, _, _, _, _, _, _] _ _ _
          refine g_iinc dX5_digestOn_59 rfl (by decide) ?_
          show Go _ _ _ _ _ _ [_, _, _, _, _, _, _, _] _ _ _
          refine g_goto (tgt := 36) dX5_digestOn_62 (by decide) ?_
          rw [nI_inc]
          exact kki
      · skip
        refine g_iload dX5_digestOn_36 rfl ?_
        refine g_iload dX5_digestOn_38 rfl ?_
        refine g_icmp_ge (tgt := 65) dX5_digestOn_40 (by decide) (fun c40 => ?_) (fun c40 => ?_)
        · skip
          refine g_iinc dX5_digestOn_65 rfl (by decide) ?_
          show Go _ _ _ _ _ _ [_, _, _, _, _, _, _, _] _ _ _
          refine g_goto (tgt := 5) dX5_digestOn_68 (by decide) ?_
          refine g_forget 6 ?_
          refine g_forget 7 ?_
          show Go _ _ _ _ _ _ [_, _, _, _, _, _, _, _] _ _ _
          rw [nI_inc]
          exact kko
        · exact absurd (szI_ex _) c40
  · skip
    refine g_iload dX5_digestOn_5 rfl ?_
    refine g_bipush (v := 6) dX5_digestOn_7 (by decide) ?_
    refine g_icmp_ge (tgt := 71) dX5_digestOn_9 (by decide) (fun c9 => ?_) (fun c9 => ?_)
    · skip
      refine g_lload_n dX5_digestOn_71 rfl ?_
      refine g_lret dX5_digestOn_72 rfl ?_
      exact ⟨rfl, rfl⟩
    · exact absurd (Int32.le_refl _) c9
theorem ct_dig_T {t : Tab} {h : Int64} (hT : TxC t I) (hO : TabOK 4 80 t) : Ct X (d + 2) 66 M_X9_digestOn 66 [.ref 11, .long h] (I, J, rf0) (RJ (fun x m => x = dgTab 4 t h ∧ m = (I, J, rf0))) := by
  show Go _ _ _ _ _ _ [_, _, _, _, _, _, _, _] _ _ _
  refine g_lload_n dX9_digestOn_0 rfl ?_
  refine g_lstore_n dX9_digestOn_1 (by decide) ?_
  show Go _ _ _ _ _ _ [_, _, _, _, _, _, _, _] _ _ _
  refine g_iconst (v := 0) dX9_digestOn_2 (by decide) ?_
  refine g_istore dX9_digestOn_3 (by decide) ?_
  show Go _ _ _ _ _ _ [_, _, _, _, _, _, _, _] _ _ _
  refine go_for (fun r a => dgOne t r a) h 4 (fun r a => Go X (d + 2) 66 M_X9_digestOn 66 5 [.ref 11, .long h, .null, .long a, .null, .int (nI r), .null, .null] [] (I, J, rf0) (RJ (fun x m => x = dgTab 4 t h ∧ m = (I, J, rf0)))) (fun r hr kko => ?_) ?_
  · skip
    refine g_iload dX9_digestOn_5 rfl ?_
    refine g_iconst (v := 4) dX9_digestOn_7 (by decide) ?_
    refine g_icmp_ge (tgt := 70) dX9_digestOn_8 (by decide) (fun c8 => ?_) (fun c8 => ?_)
    · exact absurd (nI_lt hr (by decide)) (Int32.not_lt.mpr c8)
    · skip
      refine g_aload_n dX9_digestOn_11 rfl ?_
      refine t_getR dX9_digestOn_12 fl_X9_14 rfl (by decide) rfl (by decide) rfl ?_
      refine g_iload dX9_digestOn_15 rfl ?_
      refine g_callVi dX9_digestOn_17 ln_X9_41 ⟨_, rfl⟩ rfl (by decide) ⟨_, _, rfl⟩ rfl (Nat.le_of_ble_eq_true rfl) (Nat.le_of_ble_eq_true rfl) (ct_of sz_texts) rfl (fun r17 m17 h17 => ?_)
      obtain ⟨rfl, rfl⟩ := h17
      rw [ofV_nI (by decide) hr, (hT r hr).1]
      refine g_istore dX9_digestOn_20 (by decide) ?_
      show Go _ _ _ _ _ _ [_, _, _, _, _, _, _, _] _ _ _
      refine g_ldc2 dX9_digestOn_22 tb_986 ?_
      refine g_lload_n dX9_digestOn_25 rfl ?_
      refine g_lmul dX9_digestOn_26 ?_
      refine g_iload dX9_digestOn_27 rfl ?_
      refine g_i2l dX9_digestOn_29 ?_
      refine g_ladd dX9_digestOn_30 ?_
      refine g_lstore_n dX9_digestOn_31 (by decide) ?_
      show Go _ _ _ _ _ _ [_, _, _, _, _, _, _, _] _ _ _
      refine g_iconst (v := 0) dX9_digestOn_32 (by decide) ?_
      refine g_istore dX9_digestOn_33 (by decide) ?_
      show Go _ _ _ _ _ _ [_, _, _, _, _, _, _, _] _ _ _
      refine go_for (fun i a => dgV a (t.2 r i)) (dgV (foldN (fun r a => dgOne t r a) h r) (szI (t.1 r))) ((t.1 r).getD 0) (fun i a => Go X (d + 2) 66 M_X9_digestOn 66 35 [.ref 11, .long h, .null, .long a, .null, .int (nI r), .int (szI (t.1 r)), .int (nI i)] [] (I, J, rf0) (RJ (fun x m => x = dgTab 4 t h ∧ m = (I, J, rf0)))) (fun i hi kki => ?_) ?_
      · obtain ⟨c, htr, hic⟩ := szI_in hi
        have hc := hO r hr c htr
        have hs : I 13 r = nI c := by have := (hT r hr).1; rw [htr] at this; exact this
        refine g_iload dX9_digestOn_35 rfl ?_
        refine g_iload dX9_digestOn_37 rfl ?_
        refine g_icmp_ge (tgt := 64) dX9_digestOn_39 (by decide) (fun c39 => ?_) (fun c39 => ?_)
        · exact absurd (nI_lt hic (by omega)) (Int32.not_lt.mpr (by rw [htr] at c39; exact c39))
        · skip
          refine g_ldc2 dX9_digestOn_42 tb_986 ?_
          refine g_lload_n dX9_digestOn_45 rfl ?_
          refine g_lmul dX9_digestOn_46 ?_
          refine g_aload_n dX9_digestOn_47 rfl ?_
          refine g_iload dX9_digestOn_48 rfl ?_
          refine g_iload dX9_digestOn_50 rfl ?_
          refine g_callVi dX9_digestOn_52 ln_X9_47 ⟨_, rfl⟩ rfl (by decide) ⟨_, _, rfl⟩ rfl (Nat.le_of_ble_eq_true rfl) (Nat.le_of_ble_eq_true rfl) (ct_get_T hr (by omega)) rfl (fun r52 m52 h52 => ?_)
          obtain ⟨rfl, rfl⟩ := h52
          rw [show I (15 + r) i = t.2 r i by have := (hT r hr).2 c htr i hic; rwa [Nat.zero_add] at this]
          refine g_i2l dX9_digestOn_55 ?_
          refine g_ladd dX9_digestOn_56 ?_
          refine g_lstore_n dX9_digestOn_57 (by decide) ?_
          show Go _ _ _ _ _ _ [_, _, _, _, _, _, _, _] _ _ _
          refine g_iinc dX9_digestOn_58 rfl (by decide) ?_
          show Go _ _ _ _ _ _ [_, _, _, _, _, _, _, _] _ _ _
          refine g_goto (tgt := 35) dX9_digestOn_61 (by decide) ?_
          rw [nI_inc]
          exact kki
      · skip
        refine g_iload dX9_digestOn_35 rfl ?_
        refine g_iload dX9_digestOn_37 rfl ?_
        refine g_icmp_ge (tgt := 64) dX9_digestOn_39 (by decide) (fun c39 => ?_) (fun c39 => ?_)
        · skip
          refine g_iinc dX9_digestOn_64 rfl (by decide) ?_
          show Go _ _ _ _ _ _ [_, _, _, _, _, _, _, _] _ _ _
          refine g_goto (tgt := 5) dX9_digestOn_67 (by decide) ?_
          refine g_forget 6 ?_
          refine g_forget 7 ?_
          show Go _ _ _ _ _ _ [_, _, _, _, _, _, _, _] _ _ _
          rw [nI_inc]
          exact kko
        · exact absurd (szI_ex _) c39
  · skip
    refine g_iload dX9_digestOn_5 rfl ?_
    refine g_iconst (v := 4) dX9_digestOn_7 (by decide) ?_
    refine g_icmp_ge (tgt := 70) dX9_digestOn_8 (by decide) (fun c8 => ?_) (fun c8 => ?_)
    · skip
      refine g_lload_n dX9_digestOn_70 rfl ?_
      refine g_lret dX9_digestOn_71 rfl ?_
      exact ⟨rfl, rfl⟩
    · exact absurd (Int32.le_refl _) c8
end
