section
variable {X : Nat × (Nat → Int32)} {d : Nat} {I : Nat → Nat → Int32} {J : Nat → Nat → Int64}
theorem ct_fill0 {N a n : Nat} {v : Int32} {F : Nat → Nat → Option Nat} (hs : shp a = (1, 0, n)) (ha : a < N) (hn : n < 2 ^ 31) : Ct X d N M_J7_fill_53178 N [.ref a, .int v] (I, J, F) (RV (fun m => ∃ g, m = (upR I a g, J, F) ∧ (∀ j, j < n → g j = v) ∧ ∀ j, n ≤ j → g j = I a j)) := by
  show Go _ _ _ _ _ _ [_, _, _, _] _ _ _
  refine g_iconst (v := 0) dJ7_fill_53178_0 (by decide) ?_
  refine g_istore_n dJ7_fill_53178_1 (by decide) ?_
  show Go _ _ _ _ _ _ [_, _, _, _] _ _ _
  refine g_aload_n dJ7_fill_53178_2 rfl ?_
  refine t_alen dJ7_fill_53178_3 hs ha ?_
  refine g_istore_n dJ7_fill_53178_4 (by decide) ?_
  show Go _ _ _ _ _ _ [_, _, _, _] _ _ _
  have hfold : ∀ i j, foldN (fun (i : Nat) (g : Nat → Int32) => upd g i v) (I a) i j = if j < i then v else I a j := by
    intro i
    induction i with
    | zero => intro j; simp [foldN]
    | succ i ih =>
      intro j
      show upd (foldN (fun (i : Nat) (g : Nat → Int32) => upd g i v) (I a) i) i v j = _
      by_cases hj : j = i
      · subst hj; rw [pk_us]; simp
      · rw [pk_un hj, ih j]
        by_cases h2 : j < i
        · simp [h2, Nat.lt_succ_of_lt h2]
        · simp [h2, show ¬ j < i + 1 by omega]
  have h00 : (I, J, F) = (upR I a (I a), J, F) := by
    refine congrArg (fun z => (z, J, F)) (funext fun k => ?_)
    by_cases hk : k = a
    · subst hk; exact upR_s.symm
    · exact (upR_n hk).symm
  rw [h00]
  refine go_for (fun (i : Nat) (g : Nat → Int32) => upd g i v) (I a) n (fun i g => Go X d N M_J7_fill_53178 N 5 [.ref a, .int v, .int (nI i), .int (nI n)] [] (upR I a g, J, F) _) (fun i hi kk => ?_) ?_
  · skip
    refine g_iload_n dJ7_fill_53178_5 rfl ?_
    refine g_iload_n dJ7_fill_53178_6 rfl ?_
    refine g_icmp_ge (tgt := 20) dJ7_fill_53178_7 (by decide) (fun c7 => ?_) (fun c7 => ?_)
    · exact absurd (nI_lt hi hn) (Int32.not_lt.mpr c7)
    · skip
      refine g_aload_n dJ7_fill_53178_10 rfl ?_
      refine g_iload_n dJ7_fill_53178_11 rfl ?_
      refine g_iload_n dJ7_fill_53178_12 rfl ?_
      refine t_iast dJ7_fill_53178_13 hs ha (in_nI hi hn) ?_
      refine g_iinc dJ7_fill_53178_14 rfl (by decide) ?_
      show Go _ _ _ _ _ _ [_, _, _, _] _ _ _
      refine g_goto (tgt := 5) dJ7_fill_53178_17 (by decide) ?_
      rw [nI_inc, cl_nI (by omega)]
      have e9 : upR (upR I a (foldN (fun (i : Nat) (g : Nat → Int32) => upd g i v) (I a) i)) a (upd (upR I a (foldN (fun (i : Nat) (g : Nat → Int32) => upd g i v) (I a) i) a) i v) = upR I a (foldN (fun (i : Nat) (g : Nat → Int32) => upd g i v) (I a) (i + 1)) := by
        funext k
        by_cases hk : k = a
        · subst hk; rw [upR_s, upR_s, upR_s]; rfl
        · rw [upR_n hk, upR_n hk, upR_n hk]
      rw [e9]
      exact kk
  · skip
    refine g_iload_n dJ7_fill_53178_5 rfl ?_
    refine g_iload_n dJ7_fill_53178_6 rfl ?_
    refine g_icmp_ge (tgt := 20) dJ7_fill_53178_7 (by decide) (fun c7 => ?_) (fun c7 => ?_)
    · skip
      refine g_vret dJ7_fill_53178_20 ?_
      exact ⟨_, rfl, fun j hj => by rw [hfold, if_pos hj], fun j hj => by rw [hfold, if_neg (by omega)]⟩
    · exact absurd (Int32.le_refl _) c7
theorem ct_fill1 {N a n : Nat} {v : Int32} {F : Nat → Nat → Option Nat} (hs : shp a = (1, 1, n)) (ha : a < N) (hn : n < 2 ^ 31) : Ct X d N M_J7_fill_031fb N [.ref a, .int v] (I, J, F) (RV (fun m => ∃ g, m = (upR I a g, J, F) ∧ (∀ j, j < n → g j = (vp_nar .byte v)) ∧ ∀ j, n ≤ j → g j = I a j)) := by
  show Go _ _ _ _ _ _ [_, _, _, _] _ _ _
  refine g_iconst (v := 0) dJ7_fill_031fb_0 (by decide) ?_
  refine g_istore_n dJ7_fill_031fb_1 (by decide) ?_
  show Go _ _ _ _ _ _ [_, _, _, _] _ _ _
  refine g_aload_n dJ7_fill_031fb_2 rfl ?_
  refine g_alenB dJ7_fill_031fb_3 hs ha ?_
  refine g_istore_n dJ7_fill_031fb_4 (by decide) ?_
  show Go _ _ _ _ _ _ [_, _, _, _] _ _ _
  have hfold : ∀ i j, foldN (fun (i : Nat) (g : Nat → Int32) => upd g i (vp_nar .byte v)) (I a) i j = if j < i then (vp_nar .byte v) else I a j := by
    intro i
    induction i with
    | zero => intro j; simp [foldN]
    | succ i ih =>
      intro j
      show upd (foldN (fun (i : Nat) (g : Nat → Int32) => upd g i (vp_nar .byte v)) (I a) i) i (vp_nar .byte v) j = _
      by_cases hj : j = i
      · subst hj; rw [pk_us]; simp
      · rw [pk_un hj, ih j]
        by_cases h2 : j < i
        · simp [h2, Nat.lt_succ_of_lt h2]
        · simp [h2, show ¬ j < i + 1 by omega]
  have h00 : (I, J, F) = (upR I a (I a), J, F) := by
    refine congrArg (fun z => (z, J, F)) (funext fun k => ?_)
    by_cases hk : k = a
    · subst hk; exact upR_s.symm
    · exact (upR_n hk).symm
  rw [h00]
  refine go_for (fun (i : Nat) (g : Nat → Int32) => upd g i (vp_nar .byte v)) (I a) n (fun i g => Go X d N M_J7_fill_031fb N 5 [.ref a, .int v, .int (nI i), .int (nI n)] [] (upR I a g, J, F) _) (fun i hi kk => ?_) ?_
  · skip
    refine g_iload_n dJ7_fill_031fb_5 rfl ?_
    refine g_iload_n dJ7_fill_031fb_6 rfl ?_
    refine g_icmp_ge (tgt := 20) dJ7_fill_031fb_7 (by decide) (fun c7 => ?_) (fun c7 => ?_)
    · exact absurd (nI_lt hi hn) (Int32.not_lt.mpr c7)
    · skip
      refine g_aload_n dJ7_fill_031fb_10 rfl ?_
      refine g_iload_n dJ7_fill_031fb_11 rfl ?_
      refine g_iload_n dJ7_fill_031fb_12 rfl ?_
      refine t_bast dJ7_fill_031fb_13 hs ha (in_nI hi hn) ?_
      refine g_iinc dJ7_fill_031fb_14 rfl (by decide) ?_
      show Go _ _ _ _ _ _ [_, _, _, _] _ _ _
      refine g_goto (tgt := 5) dJ7_fill_031fb_17 (by decide) ?_
      rw [nI_inc, cl_nI (by omega)]
      have e9 : upR (upR I a (foldN (fun (i : Nat) (g : Nat → Int32) => upd g i (vp_nar .byte v)) (I a) i)) a (upd (upR I a (foldN (fun (i : Nat) (g : Nat → Int32) => upd g i (vp_nar .byte v)) (I a) i) a) i (vp_nar .byte v)) = upR I a (foldN (fun (i : Nat) (g : Nat → Int32) => upd g i (vp_nar .byte v)) (I a) (i + 1)) := by
        funext k
        by_cases hk : k = a
        · subst hk; rw [upR_s, upR_s, upR_s]; rfl
        · rw [upR_n hk, upR_n hk, upR_n hk]
      rw [e9]
      exact kk
  · skip
    refine g_iload_n dJ7_fill_031fb_5 rfl ?_
    refine g_iload_n dJ7_fill_031fb_6 rfl ?_
    refine g_icmp_ge (tgt := 20) dJ7_fill_031fb_7 (by decide) (fun c7 => ?_) (fun c7 => ?_)
    · skip
      refine g_vret dJ7_fill_031fb_20 ?_
      exact ⟨_, rfl, fun j hj => by rw [hfold, if_pos hj], fun j hj => by rw [hfold, if_neg (by omega)]⟩
    · exact absurd (Int32.le_refl _) c7
end
