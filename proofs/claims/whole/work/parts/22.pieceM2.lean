section
variable {X : Nat × (Nat → Int32)} {d : Nat} {I : Nat → Nat → Int32} {J : Nat → Nat → Int64}
theorem s_lk : ∀ n, n < 32 → ((nI n &&& 31).toBitVec.smod 32).toNat = n := by decide
theorem bitAt {n i : Nat} (hn : n < 2 ^ 31) (hi : i < 31) : (nI n >>> (nI i &&& 31)) &&& 1 = nI (if n.testBit i then 1 else 0) := by
  rw [pk_shrN hn (nI i &&& 31) i (s_lk i (by omega)), pk_andN (Nat.lt_of_le_of_lt (Nat.div_le_self _ _) (by omega)) 1 (by decide), Nat.testBit_eq_decide_div_mod_eq]
  congr 1
  have : n / 2 ^ i % 2 < 2 := Nat.mod_lt _ (by decide)
  rw [Nat.pow_one]
  by_cases h : n / 2 ^ i % 2 = 1
  · rw [decide_eq_true h, h]; rfl
  · rw [decide_eq_false h, if_neg (by decide)]; omega
theorem ct_bits {n : Nat} (hn : n < 2 ^ 31) : Ct X d 66 M_X11_bits 66 [.int (nI n)] (I, J, rf0) (RI (fun y9 m => y9 = nI (popN n) ∧ m = (I, J, rf0))) := by
  show Go _ _ _ _ _ _ [_, _, _] _ _ _
  refine g_iconst (v := 0) dX11_bits_0 (by decide) ?_
  refine g_istore_n dX11_bits_1 (by decide) ?_
  show Go _ _ _ _ _ _ [_, _, _] _ _ _
  refine g_iconst (v := 0) dX11_bits_2 (by decide) ?_
  refine g_istore_n dX11_bits_3 (by decide) ?_
  show Go _ _ _ _ _ _ [_, _, _] _ _ _
  refine go_for (fun (i : Nat) (c : Nat) => if n.testBit i then c + 1 else c) 0 14 (fun i c => Go X d 66 M_X11_bits 66 4 [.int (nI n), .int (nI c), .int (nI i)] [] (I, J, rf0) (RI (fun y9 m => y9 = nI (popN n) ∧ m = (I, J, rf0)))) (fun i hi kk => ?_) ?_
  · skip
    refine g_iload_n dX11_bits_4 rfl ?_
    refine g_bipush (v := 14) dX11_bits_5 (by decide) ?_
    refine g_icmp_ge (tgt := 24) dX11_bits_7 (by decide) (fun c7 => ?_) (fun c7 => ?_)
    · exact absurd (nI_lt hi (by decide)) (Int32.not_lt.mpr c7)
    · skip
      refine g_iload_n dX11_bits_10 rfl ?_
      refine g_iload_n dX11_bits_11 rfl ?_
      refine g_iload_n dX11_bits_12 rfl ?_
      refine g_ishr dX11_bits_13 ?_
      refine g_iconst (v := 1) dX11_bits_14 (by decide) ?_
      refine g_iand dX11_bits_15 ?_
      refine g_iadd dX11_bits_16 ?_
      refine g_istore_n dX11_bits_17 (by decide) ?_
      show Go _ _ _ _ _ _ [_, _, _] _ _ _
      refine g_iinc dX11_bits_18 rfl (by decide) ?_
      show Go _ _ _ _ _ _ [_, _, _] _ _ _
      refine g_goto (tgt := 4) dX11_bits_21 (by decide) ?_
      rw [nI_inc, bitAt hn (by omega), nI_add]
      have e9 : foldN (fun (i : Nat) (c : Nat) => if n.testBit i then c + 1 else c) 0 (i + 1) = foldN (fun (i : Nat) (c : Nat) => if n.testBit i then c + 1 else c) 0 i + (if n.testBit i then 1 else 0) := by
        show (if n.testBit i then foldN (fun (i : Nat) (c : Nat) => if n.testBit i then c + 1 else c) 0 i + 1 else foldN (fun (i : Nat) (c : Nat) => if n.testBit i then c + 1 else c) 0 i) = _
        split <;> rfl
      rw [e9] at kk
      exact kk
  · skip
    refine g_iload_n dX11_bits_4 rfl ?_
    refine g_bipush (v := 14) dX11_bits_5 (by decide) ?_
    refine g_icmp_ge (tgt := 24) dX11_bits_7 (by decide) (fun c7 => ?_) (fun c7 => ?_)
    · skip
      refine g_iload_n dX11_bits_24 rfl ?_
      refine g_iret dX11_bits_25 (fun ty h => by cases h; rfl) ?_
      exact ⟨rfl, rfl⟩
    · exact absurd (Int32.le_refl _) c7
theorem isK_iff {k w : Nat} (hk : k < 6) (hw : 1 ≤ w) : isK k w = true ↔ k = w ∨ (w = 1 ∧ k = 3) ∨ (w = 2 ∧ k = 4) := by
  rcases (show k = 0 ∨ k = 1 ∨ k = 2 ∨ k = 3 ∨ k = 4 ∨ k = 5 by omega) with rfl | rfl | rfl | rfl | rfl | rfl <;> simp [isK] <;> omega
theorem isK_no {k w : Nat} (h : ¬ isK k w = true) : isK k w = false := by cases hh : isK k w with
  | true => exact absurd hh h
  | false => rfl
theorem prIn_zero (c : Nat → Bool) (a : Nat) (s : Nat × Nat) : ∀ n, (prIn c a n s).1 = 0 ↔ s.1 = 0 ∧ ∀ t, t < n → c (a + 1 + t) = false
  | 0 => ⟨fun h => ⟨h, fun t ht => absurd ht (by omega)⟩, fun h => h.1⟩
  | n + 1 => by
    have ih := prIn_zero c a s n
    show (if c (a + 1 + n) then (prIn c a n s).1 ||| 2 ^ (prIn c a n s).2 else (prIn c a n s).1) = 0 ↔ _
    cases hc : c (a + 1 + n) with
    | true =>
      rw [if_pos rfl]
      constructor
      · intro h
        have h2 : 2 ^ (prIn c a n s).2 = 0 := (Nat.or_eq_zero_iff.mp h).2
        exact absurd h2 (Nat.pos_iff_ne_zero.mp (Nat.two_pow_pos _))
      · intro h
        have := h.2 n (by omega)
        rw [hc] at this
        cases this
    | false =>
      rw [if_neg (by decide), ih]
      constructor
      · intro h
        exact ⟨h.1, lt_s h.2 hc⟩
      · intro h
        exact ⟨h.1, fun t ht => h.2 t (by omega)⟩
theorem prs_zero (np : Nat) (c : Nat → Nat → Bool) : ∀ m, (foldN (fun a s => prIn (c a) a (np - (a + 1)) s) (0, 0) m).1 = 0 ↔ ∀ a, a < m → ∀ t, t < np - (a + 1) → c a (a + 1 + t) = false
  | 0 => ⟨fun _ a ha => absurd ha (by omega), fun _ => rfl⟩
  | m + 1 => by
    have ih := prs_zero np c m
    show (prIn (c m) m (np - (m + 1)) _).1 = 0 ↔ _
    rw [prIn_zero, ih]
    constructor
    · intro h
      exact lt_s h.1 h.2
    · intro h
      exact ⟨fun a ha => h a (by omega), h m (by omega)⟩
theorem hrK_one {P : Pce} {x : Nat} : hrK P 1 (fun _ => 0) x = 0 ↔ oneN P x = true := by
  rw [hrK_cB]
  unfold prs
  rw [prs_zero, show (oneN P x = true) ↔ _ from decide_eq_true_iff]
  have hcb : ∀ a b, cB P 1 (fun _ => 0) x a b = false ↔ (0 ≤ sndS P a (x : Int) → 0 ≤ sndS P b (x : Int) → sndS P a (x : Int) = sndS P b (x : Int)) := by
    intro a b
    unfold cB
    rw [cls_13 (Or.inl rfl), Int.add_zero]
    constructor
    · intro h h1 h2
      rw [decide_eq_true h1, decide_eq_true h2, Bool.true_and, Bool.true_and] at h
      exact Classical.byContradiction (fun q => of_decide_eq_false h q)
    · intro h
      by_cases h1 : 0 ≤ sndS P a (x : Int)
      · by_cases h2 : 0 ≤ sndS P b (x : Int)
        · rw [decide_eq_false (p := sndS P a (x : Int) ≠ sndS P b (x : Int)) (fun q => q (h h1 h2)), Bool.and_false, Bool.and_false]
        · rw [decide_eq_false h2, Bool.false_and, Bool.and_false]
      · rw [decide_eq_false h1, Bool.false_and]
  constructor
  · intro h a ha b hb h1 h2
    rcases Nat.lt_trichotomy a b with q | q | q
    · have := (hcb a b).mp (by have := h a ha (b - (a + 1)) (by omega); rwa [show a + 1 + (b - (a + 1)) = b by omega] at this)
      exact this h1 h2
    · rw [q]
    · have := (hcb b a).mp (by have := h b hb (a - (b + 1)) (by omega); rwa [show b + 1 + (a - (b + 1)) = a by omega] at this)
      exact (this h2 h1).symm
  · intro h a ha t ht
    exact (hcb _ _).mpr (fun h1 h2 => h a ha (a + 1 + t) (by omega) h1 h2)
theorem cntP_no {p : Nat → Bool} : ∀ {n : Nat}, (∀ i, i < n → p i = false) → cntP p n = 0
  | 0, _ => rfl
  | n + 1, h => by
    show (if p n then cntP p n + 1 else cntP p n) = 0
    rw [h n (by omega), if_neg (by decide), cntP_no (fun i hi => h i (by omega))]
theorem cntTie_0 {P : Pce} : cntTie P 0 = 0 := cntP_no (fun p _ => decide_eq_false (fun q => by
  have e : sndS P p (((0 : Nat) : Int) - 1) = -1 := by
    unfold sndS
    rw [if_neg (by omega)]
  omega))
/-- the last of n that has p -/
def lstN (p : Nat → Bool) (n : Nat) : Option Nat := foldN (fun i f => if p i then some i else f) none n
theorem lst_fst {p : Nat → Bool} (hu : ∀ i j, p i = true → p j = true → i = j) : ∀ n, lstN p n = fstN p n
  | 0 => rfl
  | n + 1 => by
    have ih := lst_fst hu n
    show (if p n then some n else lstN p n) = fstN p (n + 1)
    unfold fstN
    rw [ih]
    cases hp : p n with
    | true =>
      cases hf : fstN p n with
      | none => rfl
      | some i =>
        have h1 := fstN_spec hf
        have := hu i n h1.2 hp
        omega
    | false =>
      cases hf : fstN p n with
      | none => rfl
      | some i => rfl
theorem cntP_mono (p : Nat → Bool) {m : Nat} : ∀ {n : Nat}, m ≤ n → cntP p m ≤ cntP p n
  | 0, h => by rw [show m = 0 by omega]; exact Nat.le_refl _
  | n + 1, h => by
    rcases Nat.lt_or_ge n m with q | q
    · rw [show m = n + 1 by omega]; exact Nat.le_refl _
    · refine Nat.le_trans (cntP_mono p q) ?_
      show cntP p n ≤ if p n then cntP p n + 1 else cntP p n
      split <;> omega
theorem letB_one {P : Pce} {l : Int32} (h14 : P.2.1 ≤ 14) {i j : Nat} (hi : i < 100) (hj : j < 100) (h1 : letB P l i = true) (h2 : letB P l j = true) : i = j := by
  unfold letB at h1 h2
  rw [Bool.and_eq_true] at h1 h2
  have e := (of_decide_eq_true h1.2).trans (of_decide_eq_true h2.2).symm
  have k1 := cntP_le (fun y => isK (P.2.2.1 y) 3) i
  have k2 := cntP_le (fun y => isK (P.2.2.1 y) 3) j
  have e2 : cntK P 3 i = cntK P 3 j := (nI_eq (by unfold cntK; omega) (by unfold cntK; omega)).mp e
  have key : ∀ a b, a < b → isK (P.2.2.1 a) 3 = true → cntK P 3 a < cntK P 3 b := by
    intro a b hab ha
    have : cntK P 3 (a + 1) ≤ cntK P 3 b := cntP_mono _ hab
    have h3 : cntK P 3 (a + 1) = cntK P 3 a + 1 := by
      show (if isK (P.2.2.1 a) 3 then cntK P 3 a + 1 else cntK P 3 a) = _
      rw [ha]; rfl
    omega
  rcases Nat.lt_trichotomy i j with q | q | q
  · have := key i j q h1.1; omega
  · exact q
  · have := key j i q h2.1; omega
theorem ct_is {P : Pce} {x w : Nat} (hP : PcM P I) (hO : PcOK P) (hx : x < P.2.1) (hw1 : 1 ≤ w) (hw : w ≤ 5) : Ct X d 66 M_X11_is 66 [.ref 48, .int (nI x), .int (nI w)] (I, J, rf0) (RI (fun y9 m => y9 = bI (isK (P.2.2.1 x) w) ∧ m = (I, J, rf0))) := by
  have h14 := hO.2.1
  have hk := hO.2.2.2.1 x
  have hkx := hP.2.2.1 x hx
  show Go _ _ _ _ _ _ [_, _, _] _ _ _
  refine g_aload_n dX11_is_0 rfl ?_
  refine t_getR dX11_is_1 fl_X11_26 rfl (by decide) rfl (by decide) rfl ?_
  refine g_iload_n dX11_is_4 rfl ?_
  refine t_iald dX11_is_5 rfl (by decide) (in_nI (by omega) (by decide)) ?_
  refine g_iload_n dX11_is_6 rfl ?_
  rw [cl_nI (by omega), hkx]
  refine g_icmp_eq (tgt := 40) dX11_is_7 (by decide) (fun c7 => ?_) (fun c7 => ?_)
  · skip
    refine g_iconst (v := 1) dX11_is_40 (by decide) ?_
    refine g_goto (tgt := 45) dX11_is_41 (by decide) ?_
    refine g_iret dX11_is_45 (fun ty h => by cases h; rfl) ?_
    refine ⟨?_, rfl⟩
    first
      | (rw [(isK_iff hk hw1).mpr (Or.inl ((nI_eq (by omega) (by omega)).mp c7))]; rfl)
      | (rw [(isK_iff hk hw1).mpr (Or.inr (Or.inl ⟨(nI_eq (by omega) (by decide)).mp (show nI w = nI 1 from c12), (nI_eq (by omega) (by decide)).mp (show nI (P.2.2.1 x) = nI 3 from c22)⟩))]; rfl)
      | (rw [(isK_iff hk hw1).mpr (Or.inr (Or.inr ⟨(nI_eq (by omega) (by decide)).mp (show nI w = nI 2 from c27), (nI_eq (by omega) (by decide)).mp (show nI (P.2.2.1 x) = nI 4 from c37)⟩))]; rfl)
      | (rw [isK_no (fun q => by
           rcases (isK_iff hk hw1).mp q with q | q | q
           · exact c7 (by rw [q])
           · first
               | exact c12 (by rw [q.1]; rfl)
               | exact c22 (by rw [q.2]; rfl)
               | fail "no way"
           · first
               | exact c27 (by rw [q.1]; rfl)
               | exact c37 (by rw [q.2]; rfl))]; rfl)
      | fail "no way"
  · skip
    refine g_iload_n dX11_is_10 rfl ?_
    refine g_iconst (v := 1) dX11_is_11 (by decide) ?_
    refine g_icmp_ne (tgt := 25) dX11_is_12 (by decide) (fun c12 => ?_) (fun c12 => ?_)
    · skip
      refine g_iload_n dX11_is_25 rfl ?_
      refine g_iconst (v := 2) dX11_is_26 (by decide) ?_
      refine g_icmp_ne (tgt := 44) dX11_is_27 (by decide) (fun c27 => ?_) (fun c27 => ?_)
      · skip
        refine g_iconst (v := 0) dX11_is_44 (by decide) ?_
        refine g_iret dX11_is_45 (fun ty h => by cases h; rfl) ?_
        refine ⟨?_, rfl⟩
        first
          | (rw [(isK_iff hk hw1).mpr (Or.inl ((nI_eq (by omega) (by omega)).mp c7))]; rfl)
          | (rw [(isK_iff hk hw1).mpr (Or.inr (Or.inl ⟨(nI_eq (by omega) (by decide)).mp (show nI w = nI 1 from c12), (nI_eq (by omega) (by decide)).mp (show nI (P.2.2.1 x) = nI 3 from c22)⟩))]; rfl)
          | (rw [(isK_iff hk hw1).mpr (Or.inr (Or.inr ⟨(nI_eq (by omega) (by decide)).mp (show nI w = nI 2 from c27), (nI_eq (by omega) (by decide)).mp (show nI (P.2.2.1 x) = nI 4 from c37)⟩))]; rfl)
          | (rw [isK_no (fun q => by
               rcases (isK_iff hk hw1).mp q with q | q | q
               · exact c7 (by rw [q])
               · first
                   | exact c12 (by rw [q.1]; rfl)
                   | exact c22 (by rw [q.2]; rfl)
                   | fail "no way"
               · first
                   | exact c27 (by rw [q.1]; rfl)
                   | exact c37 (by rw [q.2]; rfl))]; rfl)
          | fail "no way"
      · skip
        refine g_aload_n dX11_is_30 rfl ?_
        refine t_getR dX11_is_31 fl_X11_26 rfl (by decide) rfl (by decide) rfl ?_
        refine g_iload_n dX11_is_34 rfl ?_
        refine t_iald dX11_is_35 rfl (by decide) (in_nI (by omega) (by decide)) ?_
        refine g_iconst (v := 4) dX11_is_36 (by decide) ?_
        rw [cl_nI (by omega), hkx]
        refine g_icmp_ne (tgt := 44) dX11_is_37 (by decide) (fun c37 => ?_) (fun c37 => ?_)
        · skip
          refine g_iconst (v := 0) dX11_is_44 (by decide) ?_
          refine g_iret dX11_is_45 (fun ty h => by cases h; rfl) ?_
          refine ⟨?_, rfl⟩
          first
            | (rw [(isK_iff hk hw1).mpr (Or.inl ((nI_eq (by omega) (by omega)).mp c7))]; rfl)
            | (rw [(isK_iff hk hw1).mpr (Or.inr (Or.inl ⟨(nI_eq (by omega) (by decide)).mp (show nI w = nI 1 from c12), (nI_eq (by omega) (by decide)).mp (show nI (P.2.2.1 x) = nI 3 from c22)⟩))]; rfl)
            | (rw [(isK_iff hk hw1).mpr (Or.inr (Or.inr ⟨(nI_eq (by omega) (by decide)).mp (show nI w = nI 2 from c27), (nI_eq (by omega) (by decide)).mp (show nI (P.2.2.1 x) = nI 4 from c37)⟩))]; rfl)
            | (rw [isK_no (fun q => by
                 rcases (isK_iff hk hw1).mp q with q | q | q
                 · exact c7 (by rw [q])
                 · first
                     | exact c12 (by rw [q.1]; rfl)
                     | exact c22 (by rw [q.2]; rfl)
                     | fail "no way"
                 · first
                     | exact c27 (by rw [q.1]; rfl)
                     | exact c37 (by rw [q.2]; rfl))]; rfl)
            | fail "no way"
        · skip
          refine g_iconst (v := 1) dX11_is_40 (by decide) ?_
          refine g_goto (tgt := 45) dX11_is_41 (by decide) ?_
          refine g_iret dX11_is_45 (fun ty h => by cases h; rfl) ?_
          refine ⟨?_, rfl⟩
          first
            | (rw [(isK_iff hk hw1).mpr (Or.inl ((nI_eq (by omega) (by omega)).mp c7))]; rfl)
            | (rw [(isK_iff hk hw1).mpr (Or.inr (Or.inl ⟨(nI_eq (by omega) (by decide)).mp (show nI w = nI 1 from c12), (nI_eq (by omega) (by decide)).mp (show nI (P.2.2.1 x) = nI 3 from c22)⟩))]; rfl)
            | (rw [(isK_iff hk hw1).mpr (Or.inr (Or.inr ⟨(nI_eq (by omega) (by decide)).mp (show nI w = nI 2 from c27), (nI_eq (by omega) (by decide)).mp (show nI (P.2.2.1 x) = nI 4 from c37)⟩))]; rfl)
            | (rw [isK_no (fun q => by
                 rcases (isK_iff hk hw1).mp q with q | q | q
                 · exact c7 (by rw [q])
                 · first
                     | exact c12 (by rw [q.1]; rfl)
                     | exact c22 (by rw [q.2]; rfl)
                     | fail "no way"
                 · first
                     | exact c27 (by rw [q.1]; rfl)
                     | exact c37 (by rw [q.2]; rfl))]; rfl)
            | fail "no way"
    · skip
      refine g_aload_n dX11_is_15 rfl ?_
      refine t_getR dX11_is_16 fl_X11_26 rfl (by decide) rfl (by decide) rfl ?_
      refine g_iload_n dX11_is_19 rfl ?_
      refine t_iald dX11_is_20 rfl (by decide) (in_nI (by omega) (by decide)) ?_
      refine g_iconst (v := 3) dX11_is_21 (by decide) ?_
      rw [cl_nI (by omega), hkx]
      refine g_icmp_eq (tgt := 40) dX11_is_22 (by decide) (fun c22 => ?_) (fun c22 => ?_)
      · skip
        refine g_iconst (v := 1) dX11_is_40 (by decide) ?_
        refine g_goto (tgt := 45) dX11_is_41 (by decide) ?_
        refine g_iret dX11_is_45 (fun ty h => by cases h; rfl) ?_
        refine ⟨?_, rfl⟩
        first
          | (rw [(isK_iff hk hw1).mpr (Or.inl ((nI_eq (by omega) (by omega)).mp c7))]; rfl)
          | (rw [(isK_iff hk hw1).mpr (Or.inr (Or.inl ⟨(nI_eq (by omega) (by decide)).mp (show nI w = nI 1 from c12), (nI_eq (by omega) (by decide)).mp (show nI (P.2.2.1 x) = nI 3 from c22)⟩))]; rfl)
          | (rw [(isK_iff hk hw1).mpr (Or.inr (Or.inr ⟨(nI_eq (by omega) (by decide)).mp (show nI w = nI 2 from c27), (nI_eq (by omega) (by decide)).mp (show nI (P.2.2.1 x) = nI 4 from c37)⟩))]; rfl)
          | (rw [isK_no (fun q => by
               rcases (isK_iff hk hw1).mp q with q | q | q
               · exact c7 (by rw [q])
               · first
                   | exact c12 (by rw [q.1]; rfl)
                   | exact c22 (by rw [q.2]; rfl)
                   | fail "no way"
               · first
                   | exact c27 (by rw [q.1]; rfl)
                   | exact c37 (by rw [q.2]; rfl))]; rfl)
          | fail "no way"
      · skip
        refine g_iload_n dX11_is_25 rfl ?_
        refine g_iconst (v := 2) dX11_is_26 (by decide) ?_
        refine g_icmp_ne (tgt := 44) dX11_is_27 (by decide) (fun c27 => ?_) (fun c27 => ?_)
        · skip
          refine g_iconst (v := 0) dX11_is_44 (by decide) ?_
          refine g_iret dX11_is_45 (fun ty h => by cases h; rfl) ?_
          refine ⟨?_, rfl⟩
          first
            | (rw [(isK_iff hk hw1).mpr (Or.inl ((nI_eq (by omega) (by omega)).mp c7))]; rfl)
            | (rw [(isK_iff hk hw1).mpr (Or.inr (Or.inl ⟨(nI_eq (by omega) (by decide)).mp (show nI w = nI 1 from c12), (nI_eq (by omega) (by decide)).mp (show nI (P.2.2.1 x) = nI 3 from c22)⟩))]; rfl)
            | (rw [(isK_iff hk hw1).mpr (Or.inr (Or.inr ⟨(nI_eq (by omega) (by decide)).mp (show nI w = nI 2 from c27), (nI_eq (by omega) (by decide)).mp (show nI (P.2.2.1 x) = nI 4 from c37)⟩))]; rfl)
            | (rw [isK_no (fun q => by
                 rcases (isK_iff hk hw1).mp q with q | q | q
                 · exact c7 (by rw [q])
                 · first
                     | exact c12 (by rw [q.1]; rfl)
                     | exact c22 (by rw [q.2]; rfl)
                     | fail "no way"
                 · first
                     | exact c27 (by rw [q.1]; rfl)
                     | exact c37 (by rw [q.2]; rfl))]; rfl)
            | fail "no way"
        · skip
          refine g_aload_n dX11_is_30 rfl ?_
          refine t_getR dX11_is_31 fl_X11_26 rfl (by decide) rfl (by decide) rfl ?_
          refine g_iload_n dX11_is_34 rfl ?_
          refine t_iald dX11_is_35 rfl (by decide) (in_nI (by omega) (by decide)) ?_
          refine g_iconst (v := 4) dX11_is_36 (by decide) ?_
          rw [cl_nI (by omega), hkx]
          refine g_icmp_ne (tgt := 44) dX11_is_37 (by decide) (fun c37 => ?_) (fun c37 => ?_)
          · skip
            refine g_iconst (v := 0) dX11_is_44 (by decide) ?_
            refine g_iret dX11_is_45 (fun ty h => by cases h; rfl) ?_
            refine ⟨?_, rfl⟩
            first
              | (rw [(isK_iff hk hw1).mpr (Or.inl ((nI_eq (by omega) (by omega)).mp c7))]; rfl)
              | (rw [(isK_iff hk hw1).mpr (Or.inr (Or.inl ⟨(nI_eq (by omega) (by decide)).mp (show nI w = nI 1 from c12), (nI_eq (by omega) (by decide)).mp (show nI (P.2.2.1 x) = nI 3 from c22)⟩))]; rfl)
              | (rw [(isK_iff hk hw1).mpr (Or.inr (Or.inr ⟨(nI_eq (by omega) (by decide)).mp (show nI w = nI 2 from c27), (nI_eq (by omega) (by decide)).mp (show nI (P.2.2.1 x) = nI 4 from c37)⟩))]; rfl)
              | (rw [isK_no (fun q => by
                   rcases (isK_iff hk hw1).mp q with q | q | q
                   · exact c7 (by rw [q])
                   · first
                       | exact c12 (by rw [q.1]; rfl)
                       | exact c22 (by rw [q.2]; rfl)
                       | fail "no way"
                   · first
                       | exact c27 (by rw [q.1]; rfl)
                       | exact c37 (by rw [q.2]; rfl))]; rfl)
              | fail "no way"
          · skip
            refine g_iconst (v := 1) dX11_is_40 (by decide) ?_
            refine g_goto (tgt := 45) dX11_is_41 (by decide) ?_
            refine g_iret dX11_is_45 (fun ty h => by cases h; rfl) ?_
            refine ⟨?_, rfl⟩
            first
              | (rw [(isK_iff hk hw1).mpr (Or.inl ((nI_eq (by omega) (by omega)).mp c7))]; rfl)
              | (rw [(isK_iff hk hw1).mpr (Or.inr (Or.inl ⟨(nI_eq (by omega) (by decide)).mp (show nI w = nI 1 from c12), (nI_eq (by omega) (by decide)).mp (show nI (P.2.2.1 x) = nI 3 from c22)⟩))]; rfl)
              | (rw [(isK_iff hk hw1).mpr (Or.inr (Or.inr ⟨(nI_eq (by omega) (by decide)).mp (show nI w = nI 2 from c27), (nI_eq (by omega) (by decide)).mp (show nI (P.2.2.1 x) = nI 4 from c37)⟩))]; rfl)
              | (rw [isK_no (fun q => by
                   rcases (isK_iff hk hw1).mp q with q | q | q
                   · exact c7 (by rw [q])
                   · first
                       | exact c12 (by rw [q.1]; rfl)
                       | exact c22 (by rw [q.2]; rfl)
                       | fail "no way"
                   · first
                       | exact c27 (by rw [q.1]; rfl)
                       | exact c37 (by rw [q.2]; rfl))]; rfl)
              | fail "no way"
theorem ct_longs {P : Pce} {x : Nat} (hP : PcM P I) (hO : PcOK P) (hx : x ≤ P.2.1) : Ct X (d + 1) 66 M_X11_longs 66 [.ref 48, .int (nI x)] (I, J, rf0) (RI (fun y9 m => y9 = nI (cntK P 2 x) ∧ m = (I, J, rf0))) := by
  have h14 := hO.2.1
  show Go _ _ _ _ _ _ [_, _, _, _] _ _ _
  refine g_iconst (v := 0) dX11_longs_0 (by decide) ?_
  refine g_istore_n dX11_longs_1 (by decide) ?_
  show Go _ _ _ _ _ _ [_, _, _, _] _ _ _
  refine g_iconst (v := 0) dX11_longs_2 (by decide) ?_
  refine g_istore_n dX11_longs_3 (by decide) ?_
  show Go _ _ _ _ _ _ [_, _, _, _] _ _ _
  refine go_for (fun (y : Nat) (c : Nat) => if isK (P.2.2.1 y) 2 then c + 1 else c) 0 x (fun y c => Go X (d + 1) 66 M_X11_longs 66 4 [.ref 48, .int (nI x), .int (nI c), .int (nI y)] [] (I, J, rf0) (RI (fun y9 m => y9 = nI (cntK P 2 x) ∧ m = (I, J, rf0)))) (fun y hy kk => ?_) ?_
  · skip
    refine g_iload_n dX11_longs_4 rfl ?_
    refine g_iload_n dX11_longs_5 rfl ?_
    refine g_icmp_ge (tgt := 32) dX11_longs_6 (by decide) (fun c6 => ?_) (fun c6 => ?_)
    · exact absurd (nI_lt hy (by omega)) (Int32.not_lt.mpr c6)
    · skip
      refine g_iload_n dX11_longs_9 rfl ?_
      refine g_aload_n dX11_longs_10 rfl ?_
      refine g_iload_n dX11_longs_11 rfl ?_
      refine g_iconst (v := 2) dX11_longs_12 (by decide) ?_
      refine g_callVi dX11_longs_13 ln_X11_160 ⟨_, rfl⟩ rfl (by decide) ⟨_, _, rfl⟩ rfl (Nat.le_of_ble_eq_true rfl) (Nat.le_of_ble_eq_true rfl) (ct_is (x := y) (w := 2) hP hO (by omega) (by decide) (by decide)) rfl (fun r13 m13 h13 => ?_)
      obtain ⟨rfl, rfl⟩ := h13
      refine g_if_eq (tgt := 23) dX11_longs_16 (by decide) (fun c16 => ?_) (fun c16 => ?_)
      · skip
        refine g_iconst (v := 0) dX11_longs_23 (by decide) ?_
        refine g_iadd dX11_longs_24 ?_
        refine g_istore_n dX11_longs_25 (by decide) ?_
        show Go _ _ _ _ _ _ [_, _, _, _] _ _ _
        refine g_iinc dX11_longs_26 rfl (by decide) ?_
        show Go _ _ _ _ _ _ [_, _, _, _] _ _ _
        refine g_goto (tgt := 4) dX11_longs_29 (by decide) ?_
        have e9 : foldN (fun (y : Nat) (c : Nat) => if isK (P.2.2.1 y) 2 then c + 1 else c) 0 (y + 1) = if isK (P.2.2.1 y) 2 then foldN (fun (y : Nat) (c : Nat) => if isK (P.2.2.1 y) 2 then c + 1 else c) 0 y + 1 else foldN (fun (y : Nat) (c : Nat) => if isK (P.2.2.1 y) 2 then c + 1 else c) 0 y := rfl
        rw [e9] at kk
        rw [nI_inc]
        have hk := hO.2.2.2.1 y
        first
          | (rw [bI_ne c16] at kk
             rw [show (1 : Int32) = nI 1 from rfl, nI_add]
             exact kk)
          | (rw [bI_eq c16] at kk
             rw [show (0 : Int32) = nI 0 from rfl, nI_add]
             exact kk)
          | fail "no way"
      · skip
        refine g_iconst (v := 1) dX11_longs_19 (by decide) ?_
        refine g_goto (tgt := 24) dX11_longs_20 (by decide) ?_
        refine g_iadd dX11_longs_24 ?_
        refine g_istore_n dX11_longs_25 (by decide) ?_
        show Go _ _ _ _ _ _ [_, _, _, _] _ _ _
        refine g_iinc dX11_longs_26 rfl (by decide) ?_
        show Go _ _ _ _ _ _ [_, _, _, _] _ _ _
        refine g_goto (tgt := 4) dX11_longs_29 (by decide) ?_
        have e9 : foldN (fun (y : Nat) (c : Nat) => if isK (P.2.2.1 y) 2 then c + 1 else c) 0 (y + 1) = if isK (P.2.2.1 y) 2 then foldN (fun (y : Nat) (c : Nat) => if isK (P.2.2.1 y) 2 then c + 1 else c) 0 y + 1 else foldN (fun (y : Nat) (c : Nat) => if isK (P.2.2.1 y) 2 then c + 1 else c) 0 y := rfl
        rw [e9] at kk
        rw [nI_inc]
        have hk := hO.2.2.2.1 y
        first
          | (rw [bI_ne c16] at kk
             rw [show (1 : Int32) = nI 1 from rfl, nI_add]
             exact kk)
          | (rw [bI_eq c16] at kk
             rw [show (0 : Int32) = nI 0 from rfl, nI_add]
             exact kk)
          | fail "no way"
  · skip
    refine g_iload_n dX11_longs_4 rfl ?_
    refine g_iload_n dX11_longs_5 rfl ?_
    refine g_icmp_ge (tgt := 32) dX11_longs_6 (by decide) (fun c6 => ?_) (fun c6 => ?_)
    · skip
      refine g_iload_n dX11_longs_32 rfl ?_
      refine g_iret dX11_longs_33 (fun ty h => by cases h; rfl) ?_
      exact ⟨rfl, rfl⟩
    · exact absurd (Int32.le_refl _) c6
theorem ct_letters {P : Pce} {x : Nat} (hP : PcM P I) (hO : PcOK P) (hx : x ≤ P.2.1) : Ct X d 66 M_X11_letters 66 [.ref 48, .int (nI x)] (I, J, rf0) (RI (fun y9 m => y9 = nI (cntK P 3 x) ∧ m = (I, J, rf0))) := by
  have h14 := hO.2.1
  show Go _ _ _ _ _ _ [_, _, _, _] _ _ _
  refine g_iconst (v := 0) dX11_letters_0 (by decide) ?_
  refine g_istore_n dX11_letters_1 (by decide) ?_
  show Go _ _ _ _ _ _ [_, _, _, _] _ _ _
  refine g_iconst (v := 0) dX11_letters_2 (by decide) ?_
  refine g_istore_n dX11_letters_3 (by decide) ?_
  show Go _ _ _ _ _ _ [_, _, _, _] _ _ _
  refine go_for (fun (y : Nat) (c : Nat) => if isK (P.2.2.1 y) 3 then c + 1 else c) 0 x (fun y c => Go X d 66 M_X11_letters 66 4 [.ref 48, .int (nI x), .int (nI c), .int (nI y)] [] (I, J, rf0) (RI (fun y9 m => y9 = nI (cntK P 3 x) ∧ m = (I, J, rf0)))) (fun y hy kk => ?_) ?_
  · skip
    refine g_iload_n dX11_letters_4 rfl ?_
    refine g_iload_n dX11_letters_5 rfl ?_
    refine g_icmp_ge (tgt := 33) dX11_letters_6 (by decide) (fun c6 => ?_) (fun c6 => ?_)
    · exact absurd (nI_lt hy (by omega)) (Int32.not_lt.mpr c6)
    · skip
      refine g_iload_n dX11_letters_9 rfl ?_
      refine g_aload_n dX11_letters_10 rfl ?_
      refine t_getR dX11_letters_11 fl_X11_26 rfl (by decide) rfl (by decide) rfl ?_
      refine g_iload_n dX11_letters_14 rfl ?_
      refine t_iald dX11_letters_15 rfl (by decide) (in_nI (by omega) (by decide)) ?_
      refine g_iconst (v := 3) dX11_letters_16 (by decide) ?_
      rw [cl_nI (by omega), hP.2.2.1 y (by omega)]
      refine g_icmp_ne (tgt := 24) dX11_letters_17 (by decide) (fun c17 => ?_) (fun c17 => ?_)
      · skip
        refine g_iconst (v := 0) dX11_letters_24 (by decide) ?_
        refine g_iadd dX11_letters_25 ?_
        refine g_istore_n dX11_letters_26 (by decide) ?_
        show Go _ _ _ _ _ _ [_, _, _, _] _ _ _
        refine g_iinc dX11_letters_27 rfl (by decide) ?_
        show Go _ _ _ _ _ _ [_, _, _, _] _ _ _
        refine g_goto (tgt := 4) dX11_letters_30 (by decide) ?_
        have e9 : foldN (fun (y : Nat) (c : Nat) => if isK (P.2.2.1 y) 3 then c + 1 else c) 0 (y + 1) = if isK (P.2.2.1 y) 3 then foldN (fun (y : Nat) (c : Nat) => if isK (P.2.2.1 y) 3 then c + 1 else c) 0 y + 1 else foldN (fun (y : Nat) (c : Nat) => if isK (P.2.2.1 y) 3 then c + 1 else c) 0 y := rfl
        rw [e9] at kk
        rw [nI_inc]
        have hk := hO.2.2.2.1 y
        first
          | (have c17' : ¬ nI (P.2.2.1 y) = 3 := c17
             rw [isK_no (k := P.2.2.1 y) (w := 3) (fun q => by
               rcases (isK_iff hk (by decide)).mp q with q | q | q
               · exact c17 (by rw [q]; rfl)
               · omega
               · omega)] at kk
             rw [show (0 : Int32) = nI 0 from rfl, nI_add]
             exact kk)
          | (rw [(isK_iff (k := P.2.2.1 y) (w := 3) hk (by decide)).mpr (Or.inl ((nI_eq (by omega) (by decide)).mp (show nI (P.2.2.1 y) = nI 3 from c17)))] at kk
             rw [show (1 : Int32) = nI 1 from rfl, nI_add]
             exact kk)
          | fail "no way"
      · skip
        refine g_iconst (v := 1) dX11_letters_20 (by decide) ?_
        refine g_goto (tgt := 25) dX11_letters_21 (by decide) ?_
        refine g_iadd dX11_letters_25 ?_
        refine g_istore_n dX11_letters_26 (by decide) ?_
        show Go _ _ _ _ _ _ [_, _, _, _] _ _ _
        refine g_iinc dX11_letters_27 rfl (by decide) ?_
        show Go _ _ _ _ _ _ [_, _, _, _] _ _ _
        refine g_goto (tgt := 4) dX11_letters_30 (by decide) ?_
        have e9 : foldN (fun (y : Nat) (c : Nat) => if isK (P.2.2.1 y) 3 then c + 1 else c) 0 (y + 1) = if isK (P.2.2.1 y) 3 then foldN (fun (y : Nat) (c : Nat) => if isK (P.2.2.1 y) 3 then c + 1 else c) 0 y + 1 else foldN (fun (y : Nat) (c : Nat) => if isK (P.2.2.1 y) 3 then c + 1 else c) 0 y := rfl
        rw [e9] at kk
        rw [nI_inc]
        have hk := hO.2.2.2.1 y
        first
          | (have c17' : ¬ nI (P.2.2.1 y) = 3 := c17
             rw [isK_no (k := P.2.2.1 y) (w := 3) (fun q => by
               rcases (isK_iff hk (by decide)).mp q with q | q | q
               · exact c17 (by rw [q]; rfl)
               · omega
               · omega)] at kk
             rw [show (0 : Int32) = nI 0 from rfl, nI_add]
             exact kk)
          | (rw [(isK_iff (k := P.2.2.1 y) (w := 3) hk (by decide)).mpr (Or.inl ((nI_eq (by omega) (by decide)).mp (show nI (P.2.2.1 y) = nI 3 from c17)))] at kk
             rw [show (1 : Int32) = nI 1 from rfl, nI_add]
             exact kk)
          | fail "no way"
  · skip
    refine g_iload_n dX11_letters_4 rfl ?_
    refine g_iload_n dX11_letters_5 rfl ?_
    refine g_icmp_ge (tgt := 33) dX11_letters_6 (by decide) (fun c6 => ?_) (fun c6 => ?_)
    · skip
      refine g_iload_n dX11_letters_33 rfl ?_
      refine g_iret dX11_letters_34 (fun ty h => by cases h; rfl) ?_
      exact ⟨rfl, rfl⟩
    · exact absurd (Int32.le_refl _) c6
theorem ct_likeAhead1 {P : Pce} {x : Nat} (hP : PcM P I) (hO : PcOK P) (hx : x ≤ 20) (hx0 : 0 < x) : Ct X (d + 3) 66 M_X11_likeAhead 66 [.ref 48, .int (nI x)] (I, J, rf0) (RI (fun y9 m => y9 = nI (cntTie P x) ∧ m = (I, J, rf0))) := by
  have h4 := hO.1
  show Go _ _ _ _ _ _ [_, _, _, _] _ _ _
  refine g_iconst (v := 0) dX11_likeAhead_0 (by decide) ?_
  refine g_istore_n dX11_likeAhead_1 (by decide) ?_
  show Go _ _ _ _ _ _ [_, _, _, _] _ _ _
  refine g_iconst (v := 0) dX11_likeAhead_2 (by decide) ?_
  refine g_istore_n dX11_likeAhead_3 (by decide) ?_
  show Go _ _ _ _ _ _ [_, _, _, _] _ _ _
  refine go_for (fun (p : Nat) (c : Nat) => if decide (0 ≤ sndS P p (x : Int) ∧ sndS P p (x : Int) = sndS P p ((x : Int) - 1)) then c + 1 else c) 0 P.1 (fun p c => Go X (d + 3) 66 M_X11_likeAhead 66 4 [.ref 48, .int (nI x), .int (nI c), .int (nI p)] [] (I, J, rf0) (RI (fun y9 m => y9 = nI (cntTie P x) ∧ m = (I, J, rf0)))) (fun p hp kk => ?_) ?_
  · skip
    refine g_iload_n dX11_likeAhead_4 rfl ?_
    refine g_aload_n dX11_likeAhead_5 rfl ?_
    refine t_getI dX11_likeAhead_6 fl_X11_116 rfl (by decide) rfl (by decide) ?_
    rw [hP.1]
    refine g_icmp_ge (tgt := 57) dX11_likeAhead_9 (by decide) (fun c9 => ?_) (fun c9 => ?_)
    · exact absurd (nI_lt hp (by omega)) (Int32.not_lt.mpr c9)
    · skip
      refine g_iload_n dX11_likeAhead_12 rfl ?_
      refine g_if_le (tgt := 57) dX11_likeAhead_13 (by decide) (fun c13 => ?_) (fun c13 => ?_)
      · exact absurd (nI_lt hx0 (by omega)) (Int32.not_lt.mpr c13)
      · skip
        refine g_iload_n dX11_likeAhead_16 rfl ?_
        refine g_aload_n dX11_likeAhead_17 rfl ?_
        refine g_iload_n dX11_likeAhead_18 rfl ?_
        refine g_iload_n dX11_likeAhead_19 rfl ?_
        refine g_iconst (v := 0) dX11_likeAhead_20 (by decide) ?_
        refine g_callVi dX11_likeAhead_21 ln_X11_129 ⟨_, rfl⟩ rfl (by decide) ⟨_, _, rfl⟩ rfl (Nat.le_of_ble_eq_true rfl) (Nat.le_of_ble_eq_true rfl) (ct_sounds (p := p) (x := x) (z := 0) hP hO hp hx (by omega)) rfl (fun r21 m21 h21 => ?_)
        obtain ⟨rfl, rfl⟩ := h21
        have r1 := sndS_rng P hO p (x : Int)
        have r2 := sndS_rng P hO p ((x : Int) - 1)
        rw [Int.add_zero]
        refine g_if_lt (tgt := 48) dX11_likeAhead_24 (by decide) (fun c24 => ?_) (fun c24 => ?_)
        · skip
          refine g_iconst (v := 0) dX11_likeAhead_48 (by decide) ?_
          refine g_iadd dX11_likeAhead_49 ?_
          refine g_istore_n dX11_likeAhead_50 (by decide) ?_
          show Go _ _ _ _ _ _ [_, _, _, _] _ _ _
          refine g_iinc dX11_likeAhead_51 rfl (by decide) ?_
          show Go _ _ _ _ _ _ [_, _, _, _] _ _ _
          refine g_goto (tgt := 4) dX11_likeAhead_54 (by decide) ?_
          have e9 : foldN (fun (p : Nat) (c : Nat) => if decide (0 ≤ sndS P p (x : Int) ∧ sndS P p (x : Int) = sndS P p ((x : Int) - 1)) then c + 1 else c) 0 (p + 1) = if decide (0 ≤ sndS P p (x : Int) ∧ sndS P p (x : Int) = sndS P p ((x : Int) - 1)) then foldN (fun (p : Nat) (c : Nat) => if decide (0 ≤ sndS P p (x : Int) ∧ sndS P p (x : Int) = sndS P p ((x : Int) - 1)) then c + 1 else c) 0 p + 1 else foldN (fun (p : Nat) (c : Nat) => if decide (0 ≤ sndS P p (x : Int) ∧ sndS P p (x : Int) = sndS P p ((x : Int) - 1)) then c + 1 else c) 0 p := rfl
          rw [e9] at kk
          rw [nI_inc]
          first
            | (have q1 := (z_lt (a := sndS P p (x : Int)) (b := 0) (by omega) (by omega)).mp c24
               rw [decide_eq_false (by omega)] at kk
               rw [show (0 : Int32) = nI 0 from rfl, nI_add]
               exact kk)
            | (have q1 := (not_congr (z_lt (a := sndS P p (x : Int)) (b := 0) (by omega) (by omega))).mp c24
               have q2 := (not_congr (z_eq (by omega) (by omega))).mp c41
               rw [decide_eq_false (by omega)] at kk
               rw [show (0 : Int32) = nI 0 from rfl, nI_add]
               exact kk)
            | (have q1 := (not_congr (z_lt (a := sndS P p (x : Int)) (b := 0) (by omega) (by omega))).mp c24
               have q2 := (z_eq (by omega) (by omega)).mp c41
               rw [decide_eq_true (by omega)] at kk
               rw [show (1 : Int32) = nI 1 from rfl, nI_add]
               exact kk)
            | fail "no way"
        · skip
          refine g_aload_n dX11_likeAhead_27 rfl ?_
          refine g_iload_n dX11_likeAhead_28 rfl ?_
          refine g_iload_n dX11_likeAhead_29 rfl ?_
          refine g_iconst (v := 0) dX11_likeAhead_30 (by decide) ?_
          refine g_callVi dX11_likeAhead_31 ln_X11_129 ⟨_, rfl⟩ rfl (by decide) ⟨_, _, rfl⟩ rfl (Nat.le_of_ble_eq_true rfl) (Nat.le_of_ble_eq_true rfl) (ct_sounds (p := p) (x := x) (z := 0) hP hO hp hx (by omega)) rfl (fun r31 m31 h31 => ?_)
          obtain ⟨rfl, rfl⟩ := h31
          refine g_aload_n dX11_likeAhead_34 rfl ?_
          refine g_iload_n dX11_likeAhead_35 rfl ?_
          refine g_iload_n dX11_likeAhead_36 rfl ?_
          refine g_iconst (v := -1) dX11_likeAhead_37 (by decide) ?_
          rw [z_m1]
          refine g_callVi dX11_likeAhead_38 ln_X11_129 ⟨_, rfl⟩ rfl (by decide) ⟨_, _, rfl⟩ rfl (Nat.le_of_ble_eq_true rfl) (Nat.le_of_ble_eq_true rfl) (ct_sounds (p := p) (x := x) (z := -1) hP hO hp hx (by omega)) rfl (fun r38 m38 h38 => ?_)
          obtain ⟨rfl, rfl⟩ := h38
          rw [Int.add_zero, show (x : Int) + -1 = (x : Int) - 1 by omega]
          refine g_icmp_ne (tgt := 48) dX11_likeAhead_41 (by decide) (fun c41 => ?_) (fun c41 => ?_)
          · skip
            refine g_iconst (v := 0) dX11_likeAhead_48 (by decide) ?_
            refine g_iadd dX11_likeAhead_49 ?_
            refine g_istore_n dX11_likeAhead_50 (by decide) ?_
            show Go _ _ _ _ _ _ [_, _, _, _] _ _ _
            refine g_iinc dX11_likeAhead_51 rfl (by decide) ?_
            show Go _ _ _ _ _ _ [_, _, _, _] _ _ _
            refine g_goto (tgt := 4) dX11_likeAhead_54 (by decide) ?_
            have e9 : foldN (fun (p : Nat) (c : Nat) => if decide (0 ≤ sndS P p (x : Int) ∧ sndS P p (x : Int) = sndS P p ((x : Int) - 1)) then c + 1 else c) 0 (p + 1) = if decide (0 ≤ sndS P p (x : Int) ∧ sndS P p (x : Int) = sndS P p ((x : Int) - 1)) then foldN (fun (p : Nat) (c : Nat) => if decide (0 ≤ sndS P p (x : Int) ∧ sndS P p (x : Int) = sndS P p ((x : Int) - 1)) then c + 1 else c) 0 p + 1 else foldN (fun (p : Nat) (c : Nat) => if decide (0 ≤ sndS P p (x : Int) ∧ sndS P p (x : Int) = sndS P p ((x : Int) - 1)) then c + 1 else c) 0 p := rfl
            rw [e9] at kk
            rw [nI_inc]
            first
              | (have q1 := (z_lt (a := sndS P p (x : Int)) (b := 0) (by omega) (by omega)).mp c24
                 rw [decide_eq_false (by omega)] at kk
                 rw [show (0 : Int32) = nI 0 from rfl, nI_add]
                 exact kk)
              | (have q1 := (not_congr (z_lt (a := sndS P p (x : Int)) (b := 0) (by omega) (by omega))).mp c24
                 have q2 := (not_congr (z_eq (by omega) (by omega))).mp c41
                 rw [decide_eq_false (by omega)] at kk
                 rw [show (0 : Int32) = nI 0 from rfl, nI_add]
                 exact kk)
              | (have q1 := (not_congr (z_lt (a := sndS P p (x : Int)) (b := 0) (by omega) (by omega))).mp c24
                 have q2 := (z_eq (by omega) (by omega)).mp c41
                 rw [decide_eq_true (by omega)] at kk
                 rw [show (1 : Int32) = nI 1 from rfl, nI_add]
                 exact kk)
              | fail "no way"
          · skip
            refine g_iconst (v := 1) dX11_likeAhead_44 (by decide) ?_
            refine g_goto (tgt := 49) dX11_likeAhead_45 (by decide) ?_
            refine g_iadd dX11_likeAhead_49 ?_
            refine g_istore_n dX11_likeAhead_50 (by decide) ?_
            show Go _ _ _ _ _ _ [_, _, _, _] _ _ _
            refine g_iinc dX11_likeAhead_51 rfl (by decide) ?_
            show Go _ _ _ _ _ _ [_, _, _, _] _ _ _
            refine g_goto (tgt := 4) dX11_likeAhead_54 (by decide) ?_
            have e9 : foldN (fun (p : Nat) (c : Nat) => if decide (0 ≤ sndS P p (x : Int) ∧ sndS P p (x : Int) = sndS P p ((x : Int) - 1)) then c + 1 else c) 0 (p + 1) = if decide (0 ≤ sndS P p (x : Int) ∧ sndS P p (x : Int) = sndS P p ((x : Int) - 1)) then foldN (fun (p : Nat) (c : Nat) => if decide (0 ≤ sndS P p (x : Int) ∧ sndS P p (x : Int) = sndS P p ((x : Int) - 1)) then c + 1 else c) 0 p + 1 else foldN (fun (p : Nat) (c : Nat) => if decide (0 ≤ sndS P p (x : Int) ∧ sndS P p (x : Int) = sndS P p ((x : Int) - 1)) then c + 1 else c) 0 p := rfl
            rw [e9] at kk
            rw [nI_inc]
            first
              | (have q1 := (z_lt (a := sndS P p (x : Int)) (b := 0) (by omega) (by omega)).mp c24
                 rw [decide_eq_false (by omega)] at kk
                 rw [show (0 : Int32) = nI 0 from rfl, nI_add]
                 exact kk)
              | (have q1 := (not_congr (z_lt (a := sndS P p (x : Int)) (b := 0) (by omega) (by omega))).mp c24
                 have q2 := (not_congr (z_eq (by omega) (by omega))).mp c41
                 rw [decide_eq_false (by omega)] at kk
                 rw [show (0 : Int32) = nI 0 from rfl, nI_add]
                 exact kk)
              | (have q1 := (not_congr (z_lt (a := sndS P p (x : Int)) (b := 0) (by omega) (by omega))).mp c24
                 have q2 := (z_eq (by omega) (by omega)).mp c41
                 rw [decide_eq_true (by omega)] at kk
                 rw [show (1 : Int32) = nI 1 from rfl, nI_add]
                 exact kk)
              | fail "no way"
  · skip
    refine g_iload_n dX11_likeAhead_4 rfl ?_
    refine g_aload_n dX11_likeAhead_5 rfl ?_
    refine t_getI dX11_likeAhead_6 fl_X11_116 rfl (by decide) rfl (by decide) ?_
    rw [hP.1]
    refine g_icmp_ge (tgt := 57) dX11_likeAhead_9 (by decide) (fun c9 => ?_) (fun c9 => ?_)
    · skip
      refine g_iload_n dX11_likeAhead_57 rfl ?_
      refine g_iret dX11_likeAhead_58 (fun ty h => by cases h; rfl) ?_
      exact ⟨rfl, rfl⟩
    · exact absurd (Int32.le_refl _) c9
theorem ct_likeAhead0 {P : Pce} (hP : PcM P I) (hO : PcOK P) : Ct X (d + 3) 66 M_X11_likeAhead 66 [.ref 48, .int (nI 0)] (I, J, rf0) (RI (fun y9 m => y9 = nI (cntTie P 0) ∧ m = (I, J, rf0))) := by
  show Go _ _ _ _ _ _ [_, _, _, _] _ _ _
  refine g_iconst (v := 0) dX11_likeAhead_0 (by decide) ?_
  refine g_istore_n dX11_likeAhead_1 (by decide) ?_
  show Go _ _ _ _ _ _ [_, _, _, _] _ _ _
  refine g_iconst (v := 0) dX11_likeAhead_2 (by decide) ?_
  refine g_istore_n dX11_likeAhead_3 (by decide) ?_
  show Go _ _ _ _ _ _ [_, _, _, _] _ _ _
  refine g_iload_n dX11_likeAhead_4 rfl ?_
  refine g_aload_n dX11_likeAhead_5 rfl ?_
  refine t_getI dX11_likeAhead_6 fl_X11_116 rfl (by decide) rfl (by decide) ?_
  refine g_icmp_ge (tgt := 57) dX11_likeAhead_9 (by decide) (fun c9 => ?_) (fun c9 => ?_)
  · skip
    refine g_iload_n dX11_likeAhead_57 rfl ?_
    refine g_iret dX11_likeAhead_58 (fun ty h => by cases h; rfl) ?_
    exact ⟨by rw [cntTie_0]; rfl, rfl⟩
  · skip
    refine g_iload_n dX11_likeAhead_12 rfl ?_
    refine g_if_le (tgt := 57) dX11_likeAhead_13 (by decide) (fun c13 => ?_) (fun c13 => ?_)
    · skip
      refine g_iload_n dX11_likeAhead_57 rfl ?_
      refine g_iret dX11_likeAhead_58 (fun ty h => by cases h; rfl) ?_
      exact ⟨by rw [cntTie_0]; rfl, rfl⟩
    · exact absurd (Int32.le_refl _) c13
theorem ct_likeAhead {P : Pce} {x : Nat} (hP : PcM P I) (hO : PcOK P) (hx : x ≤ 20) : Ct X (d + 3) 66 M_X11_likeAhead 66 [.ref 48, .int (nI x)] (I, J, rf0) (RI (fun y9 m => y9 = nI (cntTie P x) ∧ m = (I, J, rf0))) := by
  rcases Nat.eq_zero_or_pos x with q | q
  · subst q; exact ct_likeAhead0 hP hO
  · exact ct_likeAhead1 hP hO hx q
def fI (o : Option Nat) : Int32 := match o with
  | none => -1
  | some n => nI n
theorem ct_letterAt {P : Pce} {l : Int32} (hP : PcM P I) (hO : PcOK P) : Ct X (d + 1) 66 M_X11_letterAt 66 [.ref 48, .int l] (I, J, rf0) (RI (fun y9 m => y9 = fI (letP P l) ∧ m = (I, J, rf0))) := by
  have h14 := hO.2.1
  show Go _ _ _ _ _ _ [_, _, _, _] _ _ _
  refine g_iconst (v := -1) dX11_letterAt_0 (by decide) ?_
  refine g_istore_n dX11_letterAt_1 (by decide) ?_
  show Go _ _ _ _ _ _ [_, _, _, _] _ _ _
  refine g_iconst (v := 0) dX11_letterAt_2 (by decide) ?_
  refine g_istore_n dX11_letterAt_3 (by decide) ?_
  show Go _ _ _ _ _ _ [_, _, _, _] _ _ _
  refine go_for (fun (y : Nat) (f : Option Nat) => if letB P l y then some y else f) (none : Option Nat) P.2.1 (fun y f => Go X (d + 1) 66 M_X11_letterAt 66 4 [.ref 48, .int l, .int (fI f), .int (nI y)] [] (I, J, rf0) (RI (fun y9 m => y9 = fI (letP P l) ∧ m = (I, J, rf0)))) (fun y hy kk => ?_) ?_
  · skip
    refine g_iload_n dX11_letterAt_4 rfl ?_
    refine g_aload_n dX11_letterAt_5 rfl ?_
    refine t_getI dX11_letterAt_6 fl_X11_119 rfl (by decide) rfl (by decide) ?_
    rw [hP.2.1]
    refine g_icmp_ge (tgt := 43) dX11_letterAt_9 (by decide) (fun c9 => ?_) (fun c9 => ?_)
    · exact absurd (nI_lt hy (by omega)) (Int32.not_lt.mpr c9)
    · skip
      refine g_aload_n dX11_letterAt_12 rfl ?_
      refine t_getR dX11_letterAt_13 fl_X11_26 rfl (by decide) rfl (by decide) rfl ?_
      refine g_iload_n dX11_letterAt_16 rfl ?_
      refine t_iald dX11_letterAt_17 rfl (by decide) (in_nI (by omega) (by decide)) ?_
      refine g_iconst (v := 3) dX11_letterAt_18 (by decide) ?_
      rw [cl_nI (by omega), hP.2.2.1 y hy]
      refine g_icmp_ne (tgt := 35) dX11_letterAt_19 (by decide) (fun c19 => ?_) (fun c19 => ?_)
      · skip
        refine g_iload_n dX11_letterAt_35 rfl ?_
        refine g_istore_n dX11_letterAt_36 (by decide) ?_
        show Go _ _ _ _ _ _ [_, _, _, _] _ _ _
        refine g_iinc dX11_letterAt_37 rfl (by decide) ?_
        show Go _ _ _ _ _ _ [_, _, _, _] _ _ _
        refine g_goto (tgt := 4) dX11_letterAt_40 (by decide) ?_
        have e9 : foldN (fun (y : Nat) (f : Option Nat) => if letB P l y then some y else f) (none : Option Nat) (y + 1) = if letB P l y then some y else foldN (fun (y : Nat) (f : Option Nat) => if letB P l y then some y else f) none y := rfl
        rw [e9] at kk
        rw [nI_inc]
        have hk := hO.2.2.2.1 y
        first
          | (have c19' : ¬ nI (P.2.2.1 y) = 3 := c19
             have hb : letB P l y = false := by
               unfold letB
               rw [isK_no (k := P.2.2.1 y) (w := 3) (fun q => by
                 rcases (isK_iff hk (by decide)).mp q with q | q | q
                 · exact c19 (by rw [q]; rfl)
                 · omega
                 · omega), Bool.false_and]
             rw [hb] at kk
             exact kk)
          | (have c28' : ¬ nI (cntK P 3 y) = l := c28
             have hb : letB P l y = false := by
               unfold letB
               rw [decide_eq_false c28', Bool.and_false]
             rw [hb] at kk
             exact kk)
          | (have hb : letB P l y = true := by
               unfold letB
               rw [(isK_iff (k := P.2.2.1 y) (w := 3) hk (by decide)).mpr (Or.inl ((nI_eq (by omega) (by decide)).mp (show nI (P.2.2.1 y) = nI 3 from c19))), decide_eq_true c28]
               rfl
             rw [hb] at kk
             exact kk)
          | fail "no way"
      · skip
        refine g_aload_n dX11_letterAt_22 rfl ?_
        refine g_iload_n dX11_letterAt_23 rfl ?_
        refine g_callVi dX11_letterAt_24 ln_X11_167 ⟨_, rfl⟩ rfl (by decide) ⟨_, _, rfl⟩ rfl (Nat.le_of_ble_eq_true rfl) (Nat.le_of_ble_eq_true rfl) (ct_letters (x := y) hP hO (by omega)) rfl (fun r24 m24 h24 => ?_)
        obtain ⟨rfl, rfl⟩ := h24
        refine g_iload_n dX11_letterAt_27 rfl ?_
        refine g_icmp_ne (tgt := 35) dX11_letterAt_28 (by decide) (fun c28 => ?_) (fun c28 => ?_)
        · skip
          refine g_iload_n dX11_letterAt_35 rfl ?_
          refine g_istore_n dX11_letterAt_36 (by decide) ?_
          show Go _ _ _ _ _ _ [_, _, _, _] _ _ _
          refine g_iinc dX11_letterAt_37 rfl (by decide) ?_
          show Go _ _ _ _ _ _ [_, _, _, _] _ _ _
          refine g_goto (tgt := 4) dX11_letterAt_40 (by decide) ?_
          have e9 : foldN (fun (y : Nat) (f : Option Nat) => if letB P l y then some y else f) (none : Option Nat) (y + 1) = if letB P l y then some y else foldN (fun (y : Nat) (f : Option Nat) => if letB P l y then some y else f) none y := rfl
          rw [e9] at kk
          rw [nI_inc]
          have hk := hO.2.2.2.1 y
          first
            | (have c19' : ¬ nI (P.2.2.1 y) = 3 := c19
               have hb : letB P l y = false := by
                 unfold letB
                 rw [isK_no (k := P.2.2.1 y) (w := 3) (fun q => by
                   rcases (isK_iff hk (by decide)).mp q with q | q | q
                   · exact c19 (by rw [q]; rfl)
                   · omega
                   · omega), Bool.false_and]
               rw [hb] at kk
               exact kk)
            | (have c28' : ¬ nI (cntK P 3 y) = l := c28
               have hb : letB P l y = false := by
                 unfold letB
                 rw [decide_eq_false c28', Bool.and_false]
               rw [hb] at kk
               exact kk)
            | (have hb : letB P l y = true := by
                 unfold letB
                 rw [(isK_iff (k := P.2.2.1 y) (w := 3) hk (by decide)).mpr (Or.inl ((nI_eq (by omega) (by decide)).mp (show nI (P.2.2.1 y) = nI 3 from c19))), decide_eq_true c28]
                 rfl
               rw [hb] at kk
               exact kk)
            | fail "no way"
        · skip
          refine g_iload_n dX11_letterAt_31 rfl ?_
          refine g_goto (tgt := 36) dX11_letterAt_32 (by decide) ?_
          refine g_istore_n dX11_letterAt_36 (by decide) ?_
          show Go _ _ _ _ _ _ [_, _, _, _] _ _ _
          refine g_iinc dX11_letterAt_37 rfl (by decide) ?_
          show Go _ _ _ _ _ _ [_, _, _, _] _ _ _
          refine g_goto (tgt := 4) dX11_letterAt_40 (by decide) ?_
          have e9 : foldN (fun (y : Nat) (f : Option Nat) => if letB P l y then some y else f) (none : Option Nat) (y + 1) = if letB P l y then some y else foldN (fun (y : Nat) (f : Option Nat) => if letB P l y then some y else f) none y := rfl
          rw [e9] at kk
          rw [nI_inc]
          have hk := hO.2.2.2.1 y
          first
            | (have c19' : ¬ nI (P.2.2.1 y) = 3 := c19
               have hb : letB P l y = false := by
                 unfold letB
                 rw [isK_no (k := P.2.2.1 y) (w := 3) (fun q => by
                   rcases (isK_iff hk (by decide)).mp q with q | q | q
                   · exact c19 (by rw [q]; rfl)
                   · omega
                   · omega), Bool.false_and]
               rw [hb] at kk
               exact kk)
            | (have c28' : ¬ nI (cntK P 3 y) = l := c28
               have hb : letB P l y = false := by
                 unfold letB
                 rw [decide_eq_false c28', Bool.and_false]
               rw [hb] at kk
               exact kk)
            | (have hb : letB P l y = true := by
                 unfold letB
                 rw [(isK_iff (k := P.2.2.1 y) (w := 3) hk (by decide)).mpr (Or.inl ((nI_eq (by omega) (by decide)).mp (show nI (P.2.2.1 y) = nI 3 from c19))), decide_eq_true c28]
                 rfl
               rw [hb] at kk
               exact kk)
            | fail "no way"
  · skip
    refine g_iload_n dX11_letterAt_4 rfl ?_
    refine g_aload_n dX11_letterAt_5 rfl ?_
    refine t_getI dX11_letterAt_6 fl_X11_119 rfl (by decide) rfl (by decide) ?_
    rw [hP.2.1]
    refine g_icmp_ge (tgt := 43) dX11_letterAt_9 (by decide) (fun c9 => ?_) (fun c9 => ?_)
    · skip
      refine g_iload_n dX11_letterAt_43 rfl ?_
      refine g_iret dX11_letterAt_44 (fun ty h => by cases h; rfl) ?_
      refine ⟨?_, rfl⟩
      have hl : foldN (fun (y : Nat) (f : Option Nat) => if letB P l y then some y else f) (none : Option Nat) P.2.1 = letP P l := by
        have h1 : ∀ n, n ≤ 100 → foldN (fun (y : Nat) (f : Option Nat) => if letB P l y then some y else f) (none : Option Nat) n = fstN (letB P l) n := by
          intro n
          induction n with
          | zero => intro _; rfl
          | succ n ih =>
            intro hn
            show (if letB P l n then some n else foldN (fun (y : Nat) (f : Option Nat) => if letB P l y then some y else f) none n) = fstN (letB P l) (n + 1)
            unfold fstN
            rw [ih (by omega)]
            cases hp : letB P l n with
            | true =>
              cases hf : fstN (letB P l) n with
              | none => rfl
              | some i =>
                have h1 := fstN_spec hf
                have := letB_one h14 (by omega) (by omega) h1.2 hp
                omega
            | false =>
              cases hf : fstN (letB P l) n with
              | none => rfl
              | some i => rfl
        exact h1 P.2.1 (by omega)
      rw [hl]
    · exact absurd (Int32.le_refl _) c9
theorem pm_place {rw tx : Tab} {P : Pce} {ds : List Deed} {sh : Shf} {tl : Int32} {ch : Int64 × Int64} {fn : Fnd} {x w : Int32} (hA : AbsM rw tx P ds sh tl ch fn I J) (hO : StOK rw tx P ds sh) : Ct X (d + 7) 66 M_X11_place 66 [.ref 48, .int x, .int w] (I, J, rf0) (RI (fun y9 m => ∃ I', m = (I', J, rf0) ∧ FrM I I' ∧ y9 = (S_place P tl x w).1 ∧ AbsM rw tx P ds sh (S_place P tl x w).2 ch fn I' J)) := by
  have hP := hA.2.2.1
  have hQ := hO.2.2.1
  have h14 := hQ.2.1
  have h4 := hQ.1
  show Go _ _ _ _ _ _ [_, _, _] _ _ _
  refine g_aload_n dX11_place_0 rfl ?_
  refine g_iload_n dX11_place_1 rfl ?_
  refine g_callVi dX11_place_2 ln_X11_125 ⟨_, rfl⟩ rfl (by decide) ⟨_, _, rfl⟩ rfl (Nat.le_of_ble_eq_true rfl) (Nat.le_of_ble_eq_true rfl) (ct_isPlace hP hQ) rfl (fun r2 m2 h2 => ?_)
  obtain ⟨rfl, rfl⟩ := h2
  refine g_if_eq (tgt := 34) dX11_place_5 (by decide) (fun c5 => ?_) (fun c5 => ?_)
  · skip
    refine g_iconst (v := -1) dX11_place_34 (by decide) ?_
    refine g_iret dX11_place_35 (fun ty h => by cases h; rfl) ?_
    first
      | (have hS : S_place P tl x w = (-1, tl) := by
           unfold S_place; rw [bI_eq c5]; rfl
         exact ⟨_, rfl, FrM.rf, by rw [hS], by rw [hS]; exact hA⟩)
      | (have hS : S_place P tl x w = (-1, tl) := by
           unfold S_place; rw [bI_eq c17, Bool.and_false]; rfl
         exact ⟨_, rfl, FrM.rf, by rw [hS], by rw [hS]; exact hA⟩)
      | (have hS : S_place P tl (nI x) (nI w) = (1, nI (tlS P x w)) := by
           unfold S_place; rw [q1, q2, cl_nI (by omega), cl_nI (by omega)]; rfl
         exact ⟨_, rfl, (FrM.rf.up (by decide)).up (by decide), by rw [hS], by rw [hS]; exact (hA.scr (Fr.rf.up (by decide))).told⟩)
      | fail "no way"
  · skip
    refine g_iload_n dX11_place_8 rfl ?_
    refine g_i2l dX11_place_9 ?_
    refine g_lconst (v := 0) dX11_place_10 (by decide) ?_
    refine g_ldc2 dX11_place_11 tb_1187 ?_
    refine g_callSi dX11_place_14 ln_X11_76 ⟨_, rfl⟩ rfl (Nat.le_of_ble_eq_true rfl) (Nat.le_of_ble_eq_true rfl) ct_in rfl (fun r14 m14 h14 => ?_)
    obtain ⟨rfl, rfl⟩ := h14
    rw [inJ_3]
    refine g_if_eq (tgt := 34) dX11_place_17 (by decide) (fun c17 => ?_) (fun c17 => ?_)
    · skip
      refine g_iconst (v := -1) dX11_place_34 (by decide) ?_
      refine g_iret dX11_place_35 (fun ty h => by cases h; rfl) ?_
      first
        | (have hS : S_place P tl x w = (-1, tl) := by
             unfold S_place; rw [bI_eq c5]; rfl
           exact ⟨_, rfl, FrM.rf, by rw [hS], by rw [hS]; exact hA⟩)
        | (have hS : S_place P tl x w = (-1, tl) := by
             unfold S_place; rw [bI_eq c17, Bool.and_false]; rfl
           exact ⟨_, rfl, FrM.rf, by rw [hS], by rw [hS]; exact hA⟩)
        | (have hS : S_place P tl (nI x) (nI w) = (1, nI (tlS P x w)) := by
             unfold S_place; rw [q1, q2, cl_nI (by omega), cl_nI (by omega)]; rfl
           exact ⟨_, rfl, (FrM.rf.up (by decide)).up (by decide), by rw [hS], by rw [hS]; exact (hA.scr (Fr.rf.up (by decide))).told⟩)
        | fail "no way"
    · skip
      have q1 := bI_ne c5
      have q2 := bI_ne c17
      obtain ⟨x, hx, rfl⟩ := inR_ix (by omega) q1
      obtain ⟨w, hw, rfl⟩ := inR_ix (by omega) q2
      refine g_aload_n dX11_place_20 rfl ?_
      refine g_aload_n dX11_place_21 rfl ?_
      refine g_iload_n dX11_place_22 rfl ?_
      refine g_iload_n dX11_place_23 rfl ?_
      refine g_callVi dX11_place_24 ln_X11_154 ⟨_, rfl⟩ rfl (by decide) ⟨_, _, rfl⟩ rfl (Nat.le_of_ble_eq_true rfl) (Nat.le_of_ble_eq_true rfl) (ct_ofPlace hP hQ hx (by omega)) rfl (fun r24 m24 h24 => ?_)
      obtain ⟨rfl, g, rfl⟩ := h24
      refine g_iconst (v := 1) dX11_place_27 (by decide) ?_
      refine g_callVi dX11_place_28 ln_X11_84 ⟨_, rfl⟩ rfl (by decide) ⟨_, _, rfl⟩ rfl (Nat.le_of_ble_eq_true rfl) (Nat.le_of_ble_eq_true rfl) ct_asks rfl (fun r28 m28 h28 => ?_)
      obtain ⟨rfl, rfl⟩ := h28
      refine g_goto (tgt := 35) dX11_place_31 (by decide) ?_
      refine g_iret dX11_place_35 (fun ty h => by cases h; rfl) ?_
      first
        | (have hS : S_place P tl x w = (-1, tl) := by
             unfold S_place; rw [bI_eq c5]; rfl
           exact ⟨_, rfl, FrM.rf, by rw [hS], by rw [hS]; exact hA⟩)
        | (have hS : S_place P tl x w = (-1, tl) := by
             unfold S_place; rw [bI_eq c17, Bool.and_false]; rfl
           exact ⟨_, rfl, FrM.rf, by rw [hS], by rw [hS]; exact hA⟩)
        | (have hS : S_place P tl (nI x) (nI w) = (1, nI (tlS P x w)) := by
             unfold S_place; rw [q1, q2, cl_nI (by omega), cl_nI (by omega)]; rfl
           exact ⟨_, rfl, (FrM.rf.up (by decide)).up (by decide), by rw [hS], by rw [hS]; exact (hA.scr (Fr.rf.up (by decide))).told⟩)
        | fail "no way"
theorem pm_note {rw tx : Tab} {P : Pce} {ds : List Deed} {sh : Shf} {tl : Int32} {ch : Int64 × Int64} {fn : Fnd} {p x : Int32} (hA : AbsM rw tx P ds sh tl ch fn I J) (hO : StOK rw tx P ds sh) : Ct X (d + 2) 66 M_X11_note 66 [.ref 48, .int p, .int x] (I, J, rf0) (RI (fun y9 m => ∃ I', m = (I', J, rf0) ∧ FrM I I' ∧ y9 = S_note P p x ∧ AbsM rw tx P ds sh tl ch fn I' J)) := by
  have hP := hA.2.2.1
  have hQ := hO.2.2.1
  have h14 := hQ.2.1
  have h4 := hQ.1
  show Go _ _ _ _ _ _ [_, _, _] _ _ _
  refine g_aload_n dX11_note_0 rfl ?_
  refine g_iload_n dX11_note_1 rfl ?_
  refine g_callVi dX11_note_2 ln_X11_157 ⟨_, rfl⟩ rfl (by decide) ⟨_, _, rfl⟩ rfl (Nat.le_of_ble_eq_true rfl) (Nat.le_of_ble_eq_true rfl) (ct_isPlayer hP hQ) rfl (fun r2 m2 h2 => ?_)
  obtain ⟨rfl, rfl⟩ := h2
  refine g_if_eq (tgt := 29) dX11_note_5 (by decide) (fun c5 => ?_) (fun c5 => ?_)
  · skip
    refine g_iconst (v := -1) dX11_note_29 (by decide) ?_
    refine g_iret dX11_note_30 (fun ty h => by cases h; rfl) ?_
    refine ⟨_, rfl, FrM.rf, ?_, hA⟩
    unfold S_note
    first
      | (rw [bI_eq c5]; rfl)
      | (rw [bI_eq c13, Bool.and_false]; rfl)
      | (rw [q1, q2, ix4b, cl_nI (by omega), cl_nI (by omega), cl_nI (by omega), hP.2.2.2 x hx p hp]; rfl)
      | fail "no way"
  · skip
    refine g_aload_n dX11_note_8 rfl ?_
    refine g_iload_n dX11_note_9 rfl ?_
    refine g_callVi dX11_note_10 ln_X11_125 ⟨_, rfl⟩ rfl (by decide) ⟨_, _, rfl⟩ rfl (Nat.le_of_ble_eq_true rfl) (Nat.le_of_ble_eq_true rfl) (ct_isPlace hP hQ) rfl (fun r10 m10 h10 => ?_)
    obtain ⟨rfl, rfl⟩ := h10
    refine g_if_eq (tgt := 29) dX11_note_13 (by decide) (fun c13 => ?_) (fun c13 => ?_)
    · skip
      refine g_iconst (v := -1) dX11_note_29 (by decide) ?_
      refine g_iret dX11_note_30 (fun ty h => by cases h; rfl) ?_
      refine ⟨_, rfl, FrM.rf, ?_, hA⟩
      unfold S_note
      first
        | (rw [bI_eq c5]; rfl)
        | (rw [bI_eq c13, Bool.and_false]; rfl)
        | (rw [q1, q2, ix4b, cl_nI (by omega), cl_nI (by omega), cl_nI (by omega), hP.2.2.2 x hx p hp]; rfl)
        | fail "no way"
    · skip
      have q1 := bI_ne c5
      have q2 := bI_ne c13
      obtain ⟨p, hp, rfl⟩ := inR_ix (by omega) q1
      obtain ⟨x, hx, rfl⟩ := inR_ix (by omega) q2
      refine g_aload_n dX11_note_16 rfl ?_
      refine t_getR dX11_note_17 fl_X11_29 rfl (by decide) rfl (by decide) rfl ?_
      refine g_iconst (v := 4) dX11_note_20 (by decide) ?_
      refine g_iload_n dX11_note_21 rfl ?_
      refine g_imul dX11_note_22 ?_
      refine g_iload_n dX11_note_23 rfl ?_
      refine g_iadd dX11_note_24 ?_
      refine t_iald dX11_note_25 rfl (by decide) (by rw [ix4b]; exact in_nI (by omega) (by decide)) ?_
      refine g_goto (tgt := 30) dX11_note_26 (by decide) ?_
      refine g_iret dX11_note_30 (fun ty h => by cases h; rfl) ?_
      refine ⟨_, rfl, FrM.rf, ?_, hA⟩
      unfold S_note
      first
        | (rw [bI_eq c5]; rfl)
        | (rw [bI_eq c13, Bool.and_false]; rfl)
        | (rw [q1, q2, ix4b, cl_nI (by omega), cl_nI (by omega), cl_nI (by omega), hP.2.2.2 x hx p hp]; rfl)
        | fail "no way"
theorem inJ_15 {w : Int32} : inJ w.toInt64 1 5 = (inR w 6 && decide (¬ w = 0)) := by
  have z : (1 : Int64).toInt = 1 := by decide
  have z5 : (5 : Int64).toInt = 5 := by decide
  have z2 : (0 : Int32).toInt = 0 := by decide
  have z6 : (5 : Int32).toInt = 5 := by decide
  have e : inJ w.toInt64 1 5 = true ↔ (inR w 6 && decide (¬ w = 0)) = true := by
    unfold inJ
    rw [decide_eq_true_iff, Bool.and_eq_true, inR6, decide_eq_true_iff, Int64.le_iff_toInt_le, Int64.le_iff_toInt_le, Int32.toInt_toInt64, Int32.le_iff_toInt_le, Int32.le_iff_toInt_le, z, z5, z2, z6, ← Int32.toInt_inj, z2]
    omega
  cases h1 : inJ w.toInt64 1 5 <;> cases h2 : (inR w 6 && decide (¬ w = 0)) <;> simp_all
theorem pm_mark {rw tx : Tab} {P : Pce} {ds : List Deed} {sh : Shf} {tl : Int32} {ch : Int64 × Int64} {fn : Fnd} {x w : Int32} (hA : AbsM rw tx P ds sh tl ch fn I J) (hO : StOK rw tx P ds sh) : Ct X (d + 4) 66 M_X11_mark 66 [.ref 48, .int x, .int w] (I, J, rf0) (RI (fun y9 m => ∃ I', m = (I', J, rf0) ∧ FrM I I' ∧ y9 = (S_mark P fn x w).1 ∧ AbsM rw tx P ds sh tl ch (S_mark P fn x w).2 I' J)) := by
  have hP := hA.2.2.1
  have hQ := hO.2.2.1
  have h14 := hQ.2.1
  have h4 := hQ.1
  show Go _ _ _ _ _ _ [_, _, _] _ _ _
  refine g_aload_n dX11_mark_0 rfl ?_
  refine g_iload_n dX11_mark_1 rfl ?_
  refine g_callVi dX11_mark_2 ln_X11_125 ⟨_, rfl⟩ rfl (by decide) ⟨_, _, rfl⟩ rfl (Nat.le_of_ble_eq_true rfl) (Nat.le_of_ble_eq_true rfl) (ct_isPlace hP hQ) rfl (fun r2 m2 h2 => ?_)
  obtain ⟨rfl, rfl⟩ := h2
  refine g_if_eq (tgt := 20) dX11_mark_5 (by decide) (fun c5 => ?_) (fun c5 => ?_)
  · skip
    refine g_iconst (v := -1) dX11_mark_20 (by decide) ?_
    refine g_iret dX11_mark_21 (fun ty h => by cases h; rfl) ?_
    have hS : S_mark P fn x w = (-1, fn) := by
      unfold S_mark
      first
        | (rw [bI_eq c5]; rfl)
        | (rw [bI_eq c17, Bool.and_false]; rfl)
        | fail "no way"
    exact ⟨_, rfl, FrM.rf, by rw [hS], by rw [hS]; exact hA⟩
  · skip
    refine g_iload_n dX11_mark_8 rfl ?_
    refine g_i2l dX11_mark_9 ?_
    refine g_lconst (v := 1) dX11_mark_10 (by decide) ?_
    refine g_ldc2 dX11_mark_11 tb_1084 ?_
    refine g_callSi dX11_mark_14 ln_X11_76 ⟨_, rfl⟩ rfl (Nat.le_of_ble_eq_true rfl) (Nat.le_of_ble_eq_true rfl) ct_in rfl (fun r14 m14 h14 => ?_)
    obtain ⟨rfl, rfl⟩ := h14
    rw [inJ_15]
    refine g_if_ne (tgt := 22) dX11_mark_17 (by decide) (fun c17 => ?_) (fun c17 => ?_)
    · skip
      have q2 := bI_ne c17
      have q1 := bI_ne c5
      rw [Bool.and_eq_true] at q2
      obtain ⟨x, hx, rfl⟩ := inR_ix (by omega) q1
      have hw6 := q2.1
      have hw0 := of_decide_eq_true q2.2
      obtain ⟨w, hw2, rfl⟩ := inR_ix (by decide) hw6
      have hw1 : 1 ≤ w := by
        rcases Nat.eq_zero_or_pos w with q | q
        · exact absurd (by rw [q]; rfl) hw0
        · exact q
      have hw5 : w ≤ 5 := by omega
      refine g_aload_n dX11_mark_22 rfl ?_
      refine g_iload_n dX11_mark_23 rfl ?_
      refine g_iload_n dX11_mark_24 rfl ?_
      refine g_callVi dX11_mark_25 ln_X11_160 ⟨_, rfl⟩ rfl (by decide) ⟨_, _, rfl⟩ rfl (Nat.le_of_ble_eq_true rfl) (Nat.le_of_ble_eq_true rfl) (ct_is hP hQ hx hw1 hw5) rfl (fun r25 m25 h25 => ?_)
      obtain ⟨rfl, rfl⟩ := h25
      refine g_if_ne (tgt := 37) dX11_mark_28 (by decide) (fun c28 => ?_) (fun c28 => ?_)
      · skip
        refine g_aload_n dX11_mark_37 rfl ?_
        refine g_callVv dX11_mark_38 ln_X11_140 rfl rfl (by decide) ⟨_, _, rfl⟩ rfl (Nat.le_of_ble_eq_true rfl) (Nat.le_of_ble_eq_true rfl) ct_nobody rfl (fun m38 h38 => ?_)
        obtain ⟨g, rfl, hg⟩ := h38
        refine g_iload_n dX11_mark_41 rfl ?_
        refine g_iconst (v := 1) dX11_mark_42 (by decide) ?_
        refine g_icmp_ne (tgt := 63) dX11_mark_43 (by decide) (fun c43 => ?_) (fun c43 => ?_)
        · skip
          refine g_iload_n dX11_mark_63 rfl ?_
          refine g_iconst (v := 2) dX11_mark_64 (by decide) ?_
          refine g_icmp_ne (tgt := 78) dX11_mark_65 (by decide) (fun c65 => ?_) (fun c65 => ?_)
          · skip
            refine g_iload_n dX11_mark_78 rfl ?_
            refine g_iconst (v := 3) dX11_mark_79 (by decide) ?_
            refine g_icmp_ne (tgt := 91) dX11_mark_80 (by decide) (fun c80 => ?_) (fun c80 => ?_)
            · skip
              refine g_iload_n dX11_mark_91 rfl ?_
              refine g_iconst (v := 4) dX11_mark_92 (by decide) ?_
              refine g_icmp_ne (tgt := 104) dX11_mark_93 (by decide) (fun c93 => ?_) (fun c93 => ?_)
              · skip
                refine g_aload_n dX11_mark_104 rfl ?_
                refine g_iload_n dX11_mark_105 rfl ?_
                refine g_iconst (v := 0) dX11_mark_106 (by decide) ?_
                refine g_callVi dX11_mark_107 ln_X11_137 ⟨_, rfl⟩ rfl (by decide) ⟨_, _, rfl⟩ rfl (Nat.le_of_ble_eq_true rfl) (Nat.le_of_ble_eq_true rfl) (ct_clashesM (x := x) (k := 0) hP.keep63 hQ (by omega) (by decide) OuR0 (OuV.of0 hg)) rfl (fun r107 m107 h107 => ?_)
                obtain ⟨rfl, rfl⟩ := h107
                refine g_callSi dX11_mark_110 ln_X11_173 ⟨_, rfl⟩ rfl (Nat.le_of_ble_eq_true rfl) (Nat.le_of_ble_eq_true rfl) (ct_bits (by have := hrK_lt hQ 0 (fun _ => 0) x; omega)) rfl (fun r110 m110 h110 => ?_)
                obtain ⟨rfl, rfl⟩ := h110
                have hS : S_mark P fn (nI x) (nI w) = (nI (mkS P x w), fn) := by
                  unfold S_mark
                  rw [inR_nI (by omega) hx, hw6, decide_eq_true hw0, cl_nI (by omega), cl_nI (by omega), bI_ne c28]; rfl
                have hAS : AbsM rw tx P ds sh tl ch fn (upR I 63 g) J := hA.scr (Fr.rf.up (by decide))
                refine g_iret dX11_mark_113 (fun ty h => by cases h; rfl) ?_
                refine ⟨_, rfl, FrM.rf.up (by decide), ?_, by rw [hS]; exact hAS⟩
                rw [hS]
                show _ = nI (mkS P x w)
                unfold mkS
                first
                  | (have e : w = 1 := (nI_eq (by omega) (by decide)).mp (show nI w = nI 1 from c43)
                     rw [if_pos e]
                     first
                       | (have h0 : ¬ hrK P 1 (fun _ => 0) x = 0 := fun q => c52 (by rw [q]; rfl)
                          rw [if_neg (fun q => h0 (hrK_one.mpr q))]; rfl)
                       | (have h0 : hrK P 1 (fun _ => 0) x = 0 := (nI_eq (by have := hrK_lt hQ 1 (fun _ => 0) x; omega) (by decide)).mp (show nI (hrK P 1 (fun _ => 0) x) = nI 0 from c52)
                          rw [if_pos (hrK_one.mp h0)]; rfl))
                  | (have e : w = 2 := (nI_eq (by omega) (by decide)).mp (show nI w = nI 2 from c65)
                     rw [if_neg (by omega), if_pos e]
                     exact pk_sub (cntP_le _ x))
                  | (have e : w = 3 := (nI_eq (by omega) (by decide)).mp (show nI w = nI 3 from c80)
                     rw [if_neg (by omega), if_neg (by omega), if_pos e])
                  | (have e : w = 4 := (nI_eq (by omega) (by decide)).mp (show nI w = nI 4 from c93)
                     rw [if_neg (by omega), if_neg (by omega), if_neg (by omega), if_pos e])
                  | (have e1 : w ≠ 1 := fun q => c43 (by rw [q]; rfl)
                     have e2 : w ≠ 2 := fun q => c65 (by rw [q]; rfl)
                     have e3 : w ≠ 3 := fun q => c80 (by rw [q]; rfl)
                     have e4 : w ≠ 4 := fun q => c93 (by rw [q]; rfl)
                     rw [if_neg e1, if_neg e2, if_neg e3, if_neg e4])
                  | fail "no way"
              · skip
                refine g_aload_n dX11_mark_96 rfl ?_
                refine g_iload_n dX11_mark_97 rfl ?_
                refine g_callVi dX11_mark_98 ln_X11_170 ⟨_, rfl⟩ rfl (by decide) ⟨_, _, rfl⟩ rfl (Nat.le_of_ble_eq_true rfl) (Nat.le_of_ble_eq_true rfl) (ct_likeAhead (x := x) hP.keep63 hQ (by omega)) rfl (fun r98 m98 h98 => ?_)
                obtain ⟨rfl, rfl⟩ := h98
                refine g_goto (tgt := 113) dX11_mark_101 (by decide) ?_
                have hS : S_mark P fn (nI x) (nI w) = (nI (mkS P x w), fn) := by
                  unfold S_mark
                  rw [inR_nI (by omega) hx, hw6, decide_eq_true hw0, cl_nI (by omega), cl_nI (by omega), bI_ne c28]; rfl
                have hAS : AbsM rw tx P ds sh tl ch fn (upR I 63 g) J := hA.scr (Fr.rf.up (by decide))
                refine g_iret dX11_mark_113 (fun ty h => by cases h; rfl) ?_
                refine ⟨_, rfl, FrM.rf.up (by decide), ?_, by rw [hS]; exact hAS⟩
                rw [hS]
                show _ = nI (mkS P x w)
                unfold mkS
                first
                  | (have e : w = 1 := (nI_eq (by omega) (by decide)).mp (show nI w = nI 1 from c43)
                     rw [if_pos e]
                     first
                       | (have h0 : ¬ hrK P 1 (fun _ => 0) x = 0 := fun q => c52 (by rw [q]; rfl)
                          rw [if_neg (fun q => h0 (hrK_one.mpr q))]; rfl)
                       | (have h0 : hrK P 1 (fun _ => 0) x = 0 := (nI_eq (by have := hrK_lt hQ 1 (fun _ => 0) x; omega) (by decide)).mp (show nI (hrK P 1 (fun _ => 0) x) = nI 0 from c52)
                          rw [if_pos (hrK_one.mp h0)]; rfl))
                  | (have e : w = 2 := (nI_eq (by omega) (by decide)).mp (show nI w = nI 2 from c65)
                     rw [if_neg (by omega), if_pos e]
                     exact pk_sub (cntP_le _ x))
                  | (have e : w = 3 := (nI_eq (by omega) (by decide)).mp (show nI w = nI 3 from c80)
                     rw [if_neg (by omega), if_neg (by omega), if_pos e])
                  | (have e : w = 4 := (nI_eq (by omega) (by decide)).mp (show nI w = nI 4 from c93)
                     rw [if_neg (by omega), if_neg (by omega), if_neg (by omega), if_pos e])
                  | (have e1 : w ≠ 1 := fun q => c43 (by rw [q]; rfl)
                     have e2 : w ≠ 2 := fun q => c65 (by rw [q]; rfl)
                     have e3 : w ≠ 3 := fun q => c80 (by rw [q]; rfl)
                     have e4 : w ≠ 4 := fun q => c93 (by rw [q]; rfl)
                     rw [if_neg e1, if_neg e2, if_neg e3, if_neg e4])
                  | fail "no way"
            · skip
              refine g_aload_n dX11_mark_83 rfl ?_
              refine g_iload_n dX11_mark_84 rfl ?_
              refine g_callVi dX11_mark_85 ln_X11_167 ⟨_, rfl⟩ rfl (by decide) ⟨_, _, rfl⟩ rfl (Nat.le_of_ble_eq_true rfl) (Nat.le_of_ble_eq_true rfl) (ct_letters (x := x) hP.keep63 hQ (by omega)) rfl (fun r85 m85 h85 => ?_)
              obtain ⟨rfl, rfl⟩ := h85
              refine g_goto (tgt := 113) dX11_mark_88 (by decide) ?_
              have hS : S_mark P fn (nI x) (nI w) = (nI (mkS P x w), fn) := by
                unfold S_mark
                rw [inR_nI (by omega) hx, hw6, decide_eq_true hw0, cl_nI (by omega), cl_nI (by omega), bI_ne c28]; rfl
              have hAS : AbsM rw tx P ds sh tl ch fn (upR I 63 g) J := hA.scr (Fr.rf.up (by decide))
              refine g_iret dX11_mark_113 (fun ty h => by cases h; rfl) ?_
              refine ⟨_, rfl, FrM.rf.up (by decide), ?_, by rw [hS]; exact hAS⟩
              rw [hS]
              show _ = nI (mkS P x w)
              unfold mkS
              first
                | (have e : w = 1 := (nI_eq (by omega) (by decide)).mp (show nI w = nI 1 from c43)
                   rw [if_pos e]
                   first
                     | (have h0 : ¬ hrK P 1 (fun _ => 0) x = 0 := fun q => c52 (by rw [q]; rfl)
                        rw [if_neg (fun q => h0 (hrK_one.mpr q))]; rfl)
                     | (have h0 : hrK P 1 (fun _ => 0) x = 0 := (nI_eq (by have := hrK_lt hQ 1 (fun _ => 0) x; omega) (by decide)).mp (show nI (hrK P 1 (fun _ => 0) x) = nI 0 from c52)
                        rw [if_pos (hrK_one.mp h0)]; rfl))
                | (have e : w = 2 := (nI_eq (by omega) (by decide)).mp (show nI w = nI 2 from c65)
                   rw [if_neg (by omega), if_pos e]
                   exact pk_sub (cntP_le _ x))
                | (have e : w = 3 := (nI_eq (by omega) (by decide)).mp (show nI w = nI 3 from c80)
                   rw [if_neg (by omega), if_neg (by omega), if_pos e])
                | (have e : w = 4 := (nI_eq (by omega) (by decide)).mp (show nI w = nI 4 from c93)
                   rw [if_neg (by omega), if_neg (by omega), if_neg (by omega), if_pos e])
                | (have e1 : w ≠ 1 := fun q => c43 (by rw [q]; rfl)
                   have e2 : w ≠ 2 := fun q => c65 (by rw [q]; rfl)
                   have e3 : w ≠ 3 := fun q => c80 (by rw [q]; rfl)
                   have e4 : w ≠ 4 := fun q => c93 (by rw [q]; rfl)
                   rw [if_neg e1, if_neg e2, if_neg e3, if_neg e4])
                | fail "no way"
          · skip
            refine g_iload_n dX11_mark_68 rfl ?_
            refine g_aload_n dX11_mark_69 rfl ?_
            refine g_iload_n dX11_mark_70 rfl ?_
            refine g_callVi dX11_mark_71 ln_X11_164 ⟨_, rfl⟩ rfl (by decide) ⟨_, _, rfl⟩ rfl (Nat.le_of_ble_eq_true rfl) (Nat.le_of_ble_eq_true rfl) (ct_longs (x := x) hP.keep63 hQ (by omega)) rfl (fun r71 m71 h71 => ?_)
            obtain ⟨rfl, rfl⟩ := h71
            refine g_isub dX11_mark_74 ?_
            refine g_goto (tgt := 113) dX11_mark_75 (by decide) ?_
            have hS : S_mark P fn (nI x) (nI w) = (nI (mkS P x w), fn) := by
              unfold S_mark
              rw [inR_nI (by omega) hx, hw6, decide_eq_true hw0, cl_nI (by omega), cl_nI (by omega), bI_ne c28]; rfl
            have hAS : AbsM rw tx P ds sh tl ch fn (upR I 63 g) J := hA.scr (Fr.rf.up (by decide))
            refine g_iret dX11_mark_113 (fun ty h => by cases h; rfl) ?_
            refine ⟨_, rfl, FrM.rf.up (by decide), ?_, by rw [hS]; exact hAS⟩
            rw [hS]
            show _ = nI (mkS P x w)
            unfold mkS
            first
              | (have e : w = 1 := (nI_eq (by omega) (by decide)).mp (show nI w = nI 1 from c43)
                 rw [if_pos e]
                 first
                   | (have h0 : ¬ hrK P 1 (fun _ => 0) x = 0 := fun q => c52 (by rw [q]; rfl)
                      rw [if_neg (fun q => h0 (hrK_one.mpr q))]; rfl)
                   | (have h0 : hrK P 1 (fun _ => 0) x = 0 := (nI_eq (by have := hrK_lt hQ 1 (fun _ => 0) x; omega) (by decide)).mp (show nI (hrK P 1 (fun _ => 0) x) = nI 0 from c52)
                      rw [if_pos (hrK_one.mp h0)]; rfl))
              | (have e : w = 2 := (nI_eq (by omega) (by decide)).mp (show nI w = nI 2 from c65)
                 rw [if_neg (by omega), if_pos e]
                 exact pk_sub (cntP_le _ x))
              | (have e : w = 3 := (nI_eq (by omega) (by decide)).mp (show nI w = nI 3 from c80)
                 rw [if_neg (by omega), if_neg (by omega), if_pos e])
              | (have e : w = 4 := (nI_eq (by omega) (by decide)).mp (show nI w = nI 4 from c93)
                 rw [if_neg (by omega), if_neg (by omega), if_neg (by omega), if_pos e])
              | (have e1 : w ≠ 1 := fun q => c43 (by rw [q]; rfl)
                 have e2 : w ≠ 2 := fun q => c65 (by rw [q]; rfl)
                 have e3 : w ≠ 3 := fun q => c80 (by rw [q]; rfl)
                 have e4 : w ≠ 4 := fun q => c93 (by rw [q]; rfl)
                 rw [if_neg e1, if_neg e2, if_neg e3, if_neg e4])
              | fail "no way"
        · skip
          refine g_aload_n dX11_mark_46 rfl ?_
          refine g_iload_n dX11_mark_47 rfl ?_
          refine g_iconst (v := 1) dX11_mark_48 (by decide) ?_
          refine g_callVi dX11_mark_49 ln_X11_137 ⟨_, rfl⟩ rfl (by decide) ⟨_, _, rfl⟩ rfl (Nat.le_of_ble_eq_true rfl) (Nat.le_of_ble_eq_true rfl) (ct_clashesM (x := x) (k := 1) hP.keep63 hQ (by omega) (by decide) OuR0 (OuV.of0 hg)) rfl (fun r49 m49 h49 => ?_)
          obtain ⟨rfl, rfl⟩ := h49
          refine g_if_ne (tgt := 59) dX11_mark_52 (by decide) (fun c52 => ?_) (fun c52 => ?_)
          · skip
            refine g_iconst (v := 0) dX11_mark_59 (by decide) ?_
            refine g_goto (tgt := 113) dX11_mark_60 (by decide) ?_
            have hS : S_mark P fn (nI x) (nI w) = (nI (mkS P x w), fn) := by
              unfold S_mark
              rw [inR_nI (by omega) hx, hw6, decide_eq_true hw0, cl_nI (by omega), cl_nI (by omega), bI_ne c28]; rfl
            have hAS : AbsM rw tx P ds sh tl ch fn (upR I 63 g) J := hA.scr (Fr.rf.up (by decide))
            refine g_iret dX11_mark_113 (fun ty h => by cases h; rfl) ?_
            refine ⟨_, rfl, FrM.rf.up (by decide), ?_, by rw [hS]; exact hAS⟩
            rw [hS]
            show _ = nI (mkS P x w)
            unfold mkS
            first
              | (have e : w = 1 := (nI_eq (by omega) (by decide)).mp (show nI w = nI 1 from c43)
                 rw [if_pos e]
                 first
                   | (have h0 : ¬ hrK P 1 (fun _ => 0) x = 0 := fun q => c52 (by rw [q]; rfl)
                      rw [if_neg (fun q => h0 (hrK_one.mpr q))]; rfl)
                   | (have h0 : hrK P 1 (fun _ => 0) x = 0 := (nI_eq (by have := hrK_lt hQ 1 (fun _ => 0) x; omega) (by decide)).mp (show nI (hrK P 1 (fun _ => 0) x) = nI 0 from c52)
                      rw [if_pos (hrK_one.mp h0)]; rfl))
              | (have e : w = 2 := (nI_eq (by omega) (by decide)).mp (show nI w = nI 2 from c65)
                 rw [if_neg (by omega), if_pos e]
                 exact pk_sub (cntP_le _ x))
              | (have e : w = 3 := (nI_eq (by omega) (by decide)).mp (show nI w = nI 3 from c80)
                 rw [if_neg (by omega), if_neg (by omega), if_pos e])
              | (have e : w = 4 := (nI_eq (by omega) (by decide)).mp (show nI w = nI 4 from c93)
                 rw [if_neg (by omega), if_neg (by omega), if_neg (by omega), if_pos e])
              | (have e1 : w ≠ 1 := fun q => c43 (by rw [q]; rfl)
                 have e2 : w ≠ 2 := fun q => c65 (by rw [q]; rfl)
                 have e3 : w ≠ 3 := fun q => c80 (by rw [q]; rfl)
                 have e4 : w ≠ 4 := fun q => c93 (by rw [q]; rfl)
                 rw [if_neg e1, if_neg e2, if_neg e3, if_neg e4])
              | fail "no way"
          · skip
            refine g_iconst (v := 1) dX11_mark_55 (by decide) ?_
            refine g_goto (tgt := 113) dX11_mark_56 (by decide) ?_
            have hS : S_mark P fn (nI x) (nI w) = (nI (mkS P x w), fn) := by
              unfold S_mark
              rw [inR_nI (by omega) hx, hw6, decide_eq_true hw0, cl_nI (by omega), cl_nI (by omega), bI_ne c28]; rfl
            have hAS : AbsM rw tx P ds sh tl ch fn (upR I 63 g) J := hA.scr (Fr.rf.up (by decide))
            refine g_iret dX11_mark_113 (fun ty h => by cases h; rfl) ?_
            refine ⟨_, rfl, FrM.rf.up (by decide), ?_, by rw [hS]; exact hAS⟩
            rw [hS]
            show _ = nI (mkS P x w)
            unfold mkS
            first
              | (have e : w = 1 := (nI_eq (by omega) (by decide)).mp (show nI w = nI 1 from c43)
                 rw [if_pos e]
                 first
                   | (have h0 : ¬ hrK P 1 (fun _ => 0) x = 0 := fun q => c52 (by rw [q]; rfl)
                      rw [if_neg (fun q => h0 (hrK_one.mpr q))]; rfl)
                   | (have h0 : hrK P 1 (fun _ => 0) x = 0 := (nI_eq (by have := hrK_lt hQ 1 (fun _ => 0) x; omega) (by decide)).mp (show nI (hrK P 1 (fun _ => 0) x) = nI 0 from c52)
                      rw [if_pos (hrK_one.mp h0)]; rfl))
              | (have e : w = 2 := (nI_eq (by omega) (by decide)).mp (show nI w = nI 2 from c65)
                 rw [if_neg (by omega), if_pos e]
                 exact pk_sub (cntP_le _ x))
              | (have e : w = 3 := (nI_eq (by omega) (by decide)).mp (show nI w = nI 3 from c80)
                 rw [if_neg (by omega), if_neg (by omega), if_pos e])
              | (have e : w = 4 := (nI_eq (by omega) (by decide)).mp (show nI w = nI 4 from c93)
                 rw [if_neg (by omega), if_neg (by omega), if_neg (by omega), if_pos e])
              | (have e1 : w ≠ 1 := fun q => c43 (by rw [q]; rfl)
                 have e2 : w ≠ 2 := fun q => c65 (by rw [q]; rfl)
                 have e3 : w ≠ 3 := fun q => c80 (by rw [q]; rfl)
                 have e4 : w ≠ 4 := fun q => c93 (by rw [q]; rfl)
                 rw [if_neg e1, if_neg e2, if_neg e3, if_neg e4])
              | fail "no way"
      · skip
        refine g_aload_n dX11_mark_31 rfl ?_
        refine g_iconst (v := 3) dX11_mark_32 (by decide) ?_
        refine g_callVi dX11_mark_33 ln_X11_80 ⟨_, rfl⟩ rfl (by decide) ⟨_, _, rfl⟩ rfl (Nat.le_of_ble_eq_true rfl) (Nat.le_of_ble_eq_true rfl) (ct_finds (w := 3) (by decide)) rfl (fun r33 m33 h33 => ?_)
        obtain ⟨rfl, rfl⟩ := h33
        refine g_iret dX11_mark_36 (fun ty h => by cases h; rfl) ?_
        have hS : S_mark P fn (nI x) (nI w) = (-3, fndS 3 fn) := by
          unfold S_mark
          rw [inR_nI (by omega) hx, hw6, decide_eq_true hw0, cl_nI (by omega), cl_nI (by omega), bI_eq c28]; rfl
        exact ⟨_, rfl, FrM.find, by rw [hS], by rw [hS]; exact hA.find (by decide)⟩
    · skip
      refine g_iconst (v := -1) dX11_mark_20 (by decide) ?_
      refine g_iret dX11_mark_21 (fun ty h => by cases h; rfl) ?_
      have hS : S_mark P fn x w = (-1, fn) := by
        unfold S_mark
        first
          | (rw [bI_eq c5]; rfl)
          | (rw [bI_eq c17, Bool.and_false]; rfl)
          | fail "no way"
      exact ⟨_, rfl, FrM.rf, by rw [hS], by rw [hS]; exact hA⟩
end
