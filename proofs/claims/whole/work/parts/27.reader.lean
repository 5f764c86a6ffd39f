section
variable {X : Nat × (Nat → Int32)} {d : Nat} {I : Nat → Nat → Int32} {J : Nat → Nat → Int64}
/-! ===== reading a text (class) ===== -/
theorem go_rec {σ : Type} (G : Nat → σ → Prop) (hs : ∀ n, (∀ s, G n s) → ∀ s, G (n + 1) s) (h0 : ∀ s, G 0 s) : ∀ n s, G n s
  | 0 => h0
  | n + 1 => hs n (go_rec G hs h0 n)
theorem go_mem (Inv : Nat → (Nat → Nat → Int32) → Prop) (e : Nat) (G : Nat → (Nat → Nat → Int32) → Prop) (hs : ∀ i I2, i < e → Inv i I2 → (∀ I3, Inv (i + 1) I3 → G (i + 1) I3) → G i I2) (he : ∀ I2, Inv e I2 → G e I2) (I0 : Nat → Nat → Int32) (h0 : Inv 0 I0) : G 0 I0 := by
  have key : ∀ n i I2, i + n = e → Inv i I2 → G i I2 := by
    intro n
    induction n with
    | zero => intro i I2 hi hI; rw [Nat.add_zero] at hi; subst hi; exact he I2 hI
    | succ n ih => intro i I2 hi hI; exact hs i I2 (by omega) hI (fun I3 h3 => ih (i + 1) I3 (by omega) h3)
  exact key e 0 I0 (by omega) h0
theorem g_abs {N1 N pc : Nat} {M : Mth} {L S : List Value} {F : Nat → Nat → Option Nat} {Φ : Option Value → Mem → Prop} (Q : (Nat → Nat → Int32) → Prop) (h : Q I) (k : ∀ I1, Q I1 → Go X d N1 M N pc L S (I1, J, F) Φ) : Go X d N1 M N pc L S (I, J, F) Φ := k I h
theorem id_slot {k j : Nat} {v : Int32} (h : I k j = v) : (I, J, rf0) = (upR I k (upd (I k) j v), J, rf0) := congrArg (fun z => (z, J, rf0)) (funext fun q => by
  by_cases hq : q = k
  · subst hq
    rw [upR_s]
    funext i
    by_cases hi : i = j
    · subst hi; rw [pk_us]; exact h
    · rw [pk_un hi]
  · exact (upR_n hq).symm)
theorem updd {f : Nat → Int32} {j : Nat} {a b : Int32} : upd (upd f j a) j b = upd f j b := by
  funext i
  by_cases hi : i = j
  · subst hi; rw [pk_us, pk_us]
  · rw [pk_un hi, pk_un hi, pk_un hi]
def skB (f : Nat → Int32) : Nat → Nat → Nat
  | 0, i => i
  | n + 1, i => if f i = 32 then skB f n (i + 1) else i
def skipF (f : Nat → Int32) (sz i : Nat) : Nat := skB f (sz - i) i
theorem skB_le (f : Nat → Int32) : ∀ n i, skB f n i ≤ i + n
  | 0, i => Nat.le_refl _
  | n + 1, i => by
    unfold skB
    split
    · have := skB_le f n (i + 1); omega
    · omega
theorem skip_le {f : Nat → Int32} {sz i b : Nat} (h1 : i ≤ b) (h2 : sz ≤ b) : skipF f sz i ≤ b := by
  have := skB_le f (sz - i) i
  show skB f (sz - i) i ≤ b
  omega
def kdM (v : Int32) : Option Nat := fstN (fun k => decide (kLet k = v)) 6
theorem kdM_lt {v : Int32} {k : Nat} (h : kdM v = some k) : k < 6 := (fstN_spec h).1
def dg (v : Int32) : Nat := (v.toNatClampNeg - 48) % 10
theorem dg_sub {v : Int32} (h1 : 48 ≤ v) (h2 : v ≤ 57) : v - 48 = nI (dg v) := by
  have z48 : (48 : Int32).toInt = 48 := by decide
  have z57 : (57 : Int32).toInt = 57 := by decide
  obtain ⟨n, hn, rfl⟩ := nI_of (x := v) (fun q => by
    rw [Int32.lt_iff_toInt_lt] at q
    rw [Int32.le_iff_toInt_le, z48] at h1
    have z : (0 : Int32).toInt = 0 := by decide
    omega)
  rw [Int32.le_iff_toInt_le, z48, nI_toInt hn] at h1
  rw [Int32.le_iff_toInt_le, z57, nI_toInt hn] at h2
  unfold dg
  rw [cl_nI hn, show (48 : Int32) = nI 48 from rfl, pk_sub (by omega), Nat.mod_eq_of_lt (by omega)]
def nxB (f : Nat → Int32) (sz i : Nat) (lo hi : Int32) : Bool := decide (i < sz ∧ lo ≤ f i ∧ f i ≤ hi)
theorem nx_t {f : Nat → Int32} {sz i : Nat} {lo hi : Int32} (h : nxB f sz i lo hi = true) : i < sz ∧ lo ≤ f i ∧ f i ≤ hi := of_decide_eq_true h
/-- one place read at i: where the fault is, or its kind -/
def plB (f : Nat → Int32) (sz np x i : Nat) : Nat ⊕ Nat := match kdM (f i) with
  | none => .inl i
  | some k => if x = 14 then .inl i else match fstN (fun p => !nxB f sz (i + 1 + p) 48 57) np with
    | some p => .inl (i + 1 + p)
    | none => .inr k
abbrev Prd : Type := Nat × Nat × (Nat → Nat) × (Nat → Nat → Nat)
def rdNx (f : Nat → Int32) (sz np k : Nat) (s : Prd) : Prd := (s.1 + 1, skipF f sz (s.2.1 + 1 + np), upR s.2.2.1 s.1 k, upR s.2.2.2 s.1 (fun p => dg (f (s.2.1 + 1 + p))))
def rdLoop (f : Nat → Int32) (sz np : Nat) : Nat → Prd → Nat ⊕ Prd
  | 0, s => .inr s
  | n + 1, s => if s.2.1 < sz then (match plB f sz np s.1 s.2.1 with
    | .inl j => .inl j
    | .inr k => rdLoop f sz np n (rdNx f sz np k s)) else .inr s
def rdFin (np : Nat) (R : Nat ⊕ Prd) : Nat ⊕ Pce := match R with
  | .inl j => .inl j
  | .inr s => if s.1 = 0 then .inl s.2.1 else .inr (np, s.1, s.2.2.1, s.2.2.2)
def rdAll (f : Nat → Int32) (sz : Nat) : Nat ⊕ Pce := if nxB f sz (skipF f sz 0) 113 113 then (if nxB f sz (skipF f sz 0 + 1) 50 52 then rdFin (dg (f (skipF f sz 0 + 1))) (rdLoop f sz (dg (f (skipF f sz 0 + 1))) 15 (0, skipF f sz (skipF f sz 0 + 1 + 1), fun _ => 0, fun _ _ => 0)) else .inl (skipF f sz 0 + 1)) else .inl (skipF f sz 0)
theorem plB_none {f : Nat → Int32} {sz np x i : Nat} (h : kdM (f i) = none) : plB f sz np x i = .inl i := by unfold plB; rw [h]
theorem plB_full {f : Nat → Int32} {sz np i k : Nat} (h : kdM (f i) = some k) : plB f sz np 14 i = .inl i := by unfold plB; rw [h]; rfl
theorem plB_bad {f : Nat → Int32} {sz np x i k p : Nat} (h : kdM (f i) = some k) (hx : x < 14) (hp : p < np) (h1 : nxB f sz (i + 1 + p) 48 57 = false) (h2 : ∀ q, q < p → nxB f sz (i + 1 + q) 48 57 = true) : plB f sz np x i = .inl (i + 1 + p) := by
  unfold plB
  rw [h, fstN_some (p := fun p => !nxB f sz (i + 1 + p) 48 57) (i := p) (by show (!nxB f sz (i + 1 + p) 48 57) = true; rw [h1]; rfl) (fun q hq => by show (!nxB f sz (i + 1 + q) 48 57) = false; rw [h2 q hq]; rfl) hp]
  exact if_neg (by omega)
theorem plB_ok {f : Nat → Int32} {sz np x i k : Nat} (h : kdM (f i) = some k) (hx : x < 14) (h2 : ∀ q, q < np → nxB f sz (i + 1 + q) 48 57 = true) : plB f sz np x i = .inr k := by
  unfold plB
  rw [h, fstN_none (p := fun p => !nxB f sz (i + 1 + p) 48 57) (fun q hq => by show (!nxB f sz (i + 1 + q) 48 57) = false; rw [h2 q hq]; rfl)]
  exact if_neg (by omega)
def RdC (t sz : Nat) (f : Nat → Int32) (I : Nat → Nat → Int32) : Prop := I 19 5 = nI t ∧ I 19 6 = nI sz ∧ ∀ q, q < sz → I (15 + t) q = f q
theorem RdC.i {t sz : Nat} {f : Nat → Int32} {v : Int32} (h : RdC t sz f I) (ht : t < 4) : RdC t sz f (upR I 19 (upd (I 19) 7 v)) := ⟨by rw [upR_s, pk_un (by decide)]; exact h.1, by rw [upR_s, pk_un (by decide)]; exact h.2.1, fun q hq => by rw [upR_n (by omega)]; exact h.2.2 q hq⟩
theorem RdC.keep {t sz : Nat} {f : Nat → Int32} {I' : Nat → Nat → Int32} (h : RdC t sz f I) (ht : t < 4) (hf : Fr [19, 20, 21] I I') (h5 : I' 19 5 = I 19 5) (h6 : I' 19 6 = I 19 6) : RdC t sz f I' := ⟨h5.trans h.1, h6.trans h.2.1, fun q hq => by rw [hf (15 + t) (by simp; omega)]; exact h.2.2 q hq⟩
theorem ct_sign {t sz i : Nat} {f : Nat → Int32} (hR : RdC t sz f I) (ht : t < 4) (hs : sz ≤ 80) (h7 : I 19 7 = nI i) (hi : i < sz) : Ct X (d + 1) 66 M_X4_sign 66 [.ref 19] (I, J, rf0) (RI (fun y9 m => y9 = f i ∧ m = (I, J, rf0))) := by
  show Go _ _ _ _ _ _ [_] _ _ _
  refine g_aload_n dX4_sign_0 rfl ?_
  refine t_getR dX4_sign_1 fl_X4_18 rfl (by decide) rfl (by decide) rfl ?_
  refine g_aload_n dX4_sign_4 rfl ?_
  refine t_getI dX4_sign_5 fl_X4_22 rfl (by decide) rfl (by decide) ?_
  rw [hR.1]
  refine g_aload_n dX4_sign_8 rfl ?_
  refine t_getI dX4_sign_9 fl_X4_41 rfl (by decide) rfl (by decide) ?_
  rw [h7]
  refine g_callVi dX4_sign_12 ln_X4_71 ⟨_, rfl⟩ rfl (by decide) ⟨_, _, rfl⟩ rfl (Nat.le_of_ble_eq_true rfl) (Nat.le_of_ble_eq_true rfl) (ct_get_T (j := t) (t := i) ht (by omega)) rfl (fun r12 m12 h12 => ?_)
  obtain ⟨rfl, rfl⟩ := h12
  refine g_iret dX4_sign_15 (fun ty h => by cases h; rfl) ?_
  exact ⟨hR.2.2 i hi, rfl⟩
theorem ct_isNext {t sz i : Nat} {f : Nat → Int32} (hR : RdC t sz f I) (ht : t < 4) (hs : sz ≤ 80) (h7 : I 19 7 = nI i) {lo hi : Int32} (hi9 : i ≤ 100) : Ct X (d + 2) 66 M_X4_isNext 66 [.ref 19, .int lo, .int hi] (I, J, rf0) (RI (fun y9 m => y9 = bI (nxB f sz i lo hi) ∧ m = (I, J, rf0))) := by
  show Go _ _ _ _ _ _ [_, _, _] _ _ _
  refine g_aload_n dX4_isNext_0 rfl ?_
  refine t_getI dX4_isNext_1 fl_X4_41 rfl (by decide) rfl (by decide) ?_
  rw [h7]
  refine g_aload_n dX4_isNext_4 rfl ?_
  refine t_getI dX4_isNext_5 fl_X4_38 rfl (by decide) rfl (by decide) ?_
  rw [hR.2.1]
  refine g_icmp_ge (tgt := 31) dX4_isNext_8 (by decide) (fun c8 => ?_) (fun c8 => ?_)
  · skip
    refine g_iconst (v := 0) dX4_isNext_31 (by decide) ?_
    refine g_iret dX4_isNext_32 (fun ty h => by cases h; rfl) ?_
    refine ⟨?_, rfl⟩
    unfold nxB
    first
      | (have hge : sz ≤ i := (nI_leI (by omega) (by omega)).mp c8
         rw [decide_eq_false (fun q => by omega)]; rfl)
      | (rw [decide_eq_false (fun q => absurd c16 (Int32.not_lt.mpr q.2.1))]; rfl)
      | (rw [decide_eq_false (fun q => absurd c24 (Int32.not_lt.mpr q.2.2))]; rfl)
      | (rw [decide_eq_true ⟨hlt, Int32.not_lt.mp c16, Int32.not_lt.mp c24⟩]; rfl)
      | fail "no way"
  · skip
    have hlt : i < sz := Nat.lt_of_not_le (fun q => c8 (nI_le q (by omega)))
    refine g_aload_n dX4_isNext_11 rfl ?_
    refine g_callVi dX4_isNext_12 ln_X4_57 ⟨_, rfl⟩ rfl (by decide) ⟨_, _, rfl⟩ rfl (Nat.le_of_ble_eq_true rfl) (Nat.le_of_ble_eq_true rfl) (ct_sign hR ht hs h7 hlt) rfl (fun r12 m12 h12 => ?_)
    obtain ⟨rfl, rfl⟩ := h12
    refine g_iload_n dX4_isNext_15 rfl ?_
    refine g_icmp_lt (tgt := 31) dX4_isNext_16 (by decide) (fun c16 => ?_) (fun c16 => ?_)
    · skip
      refine g_iconst (v := 0) dX4_isNext_31 (by decide) ?_
      refine g_iret dX4_isNext_32 (fun ty h => by cases h; rfl) ?_
      refine ⟨?_, rfl⟩
      unfold nxB
      first
        | (have hge : sz ≤ i := (nI_leI (by omega) (by omega)).mp c8
           rw [decide_eq_false (fun q => by omega)]; rfl)
        | (rw [decide_eq_false (fun q => absurd c16 (Int32.not_lt.mpr q.2.1))]; rfl)
        | (rw [decide_eq_false (fun q => absurd c24 (Int32.not_lt.mpr q.2.2))]; rfl)
        | (rw [decide_eq_true ⟨hlt, Int32.not_lt.mp c16, Int32.not_lt.mp c24⟩]; rfl)
        | fail "no way"
    · skip
      refine g_aload_n dX4_isNext_19 rfl ?_
      refine g_callVi dX4_isNext_20 ln_X4_57 ⟨_, rfl⟩ rfl (by decide) ⟨_, _, rfl⟩ rfl (Nat.le_of_ble_eq_true rfl) (Nat.le_of_ble_eq_true rfl) (ct_sign hR ht hs h7 hlt) rfl (fun r20 m20 h20 => ?_)
      obtain ⟨rfl, rfl⟩ := h20
      refine g_iload_n dX4_isNext_23 rfl ?_
      refine g_icmp_gt (tgt := 31) dX4_isNext_24 (by decide) (fun c24 => ?_) (fun c24 => ?_)
      · skip
        refine g_iconst (v := 0) dX4_isNext_31 (by decide) ?_
        refine g_iret dX4_isNext_32 (fun ty h => by cases h; rfl) ?_
        refine ⟨?_, rfl⟩
        unfold nxB
        first
          | (have hge : sz ≤ i := (nI_leI (by omega) (by omega)).mp c8
             rw [decide_eq_false (fun q => by omega)]; rfl)
          | (rw [decide_eq_false (fun q => absurd c16 (Int32.not_lt.mpr q.2.1))]; rfl)
          | (rw [decide_eq_false (fun q => absurd c24 (Int32.not_lt.mpr q.2.2))]; rfl)
          | (rw [decide_eq_true ⟨hlt, Int32.not_lt.mp c16, Int32.not_lt.mp c24⟩]; rfl)
          | fail "no way"
      · skip
        refine g_iconst (v := 1) dX4_isNext_27 (by decide) ?_
        refine g_goto (tgt := 32) dX4_isNext_28 (by decide) ?_
        refine g_iret dX4_isNext_32 (fun ty h => by cases h; rfl) ?_
        refine ⟨?_, rfl⟩
        unfold nxB
        first
          | (have hge : sz ≤ i := (nI_leI (by omega) (by omega)).mp c8
             rw [decide_eq_false (fun q => by omega)]; rfl)
          | (rw [decide_eq_false (fun q => absurd c16 (Int32.not_lt.mpr q.2.1))]; rfl)
          | (rw [decide_eq_false (fun q => absurd c24 (Int32.not_lt.mpr q.2.2))]; rfl)
          | (rw [decide_eq_true ⟨hlt, Int32.not_lt.mp c16, Int32.not_lt.mp c24⟩]; rfl)
          | fail "no way"
theorem ct_kindMeant {t sz i : Nat} {f : Nat → Int32} (hR : RdC t sz f I) (ht : t < 4) (hs : sz ≤ 80) (h7 : I 19 7 = nI i) (hi : i < sz) : Ct X (d + 2) 66 M_X4_kindMeant 66 [.ref 19] (I, J, rf0) (RI (fun y9 m => y9 = oI (kdM (f i)) ∧ m = (I, J, rf0))) := by
  show Go _ _ _ _ _ _ [_, _] _ _ _
  refine g_iconst (v := 0) dX4_kindMeant_0 (by decide) ?_
  refine g_istore_n dX4_kindMeant_1 (by decide) ?_
  show Go _ _ _ _ _ _ [_, _] _ _ _
  refine go_for (σ := Unit) (fun _ s => s) () 6 (fun k _ => (∀ q, q < k → ¬ kLet q = f i) → Go X (d + 2) 66 M_X4_kindMeant 66 2 [.ref 19, .int (nI k)] [] (I, J, rf0) (RI (fun y9 m => y9 = oI (kdM (f i)) ∧ m = (I, J, rf0)))) (fun k hk kk hn => ?_) (fun hn => ?_) (fun q hq => absurd hq (Nat.not_lt_zero q))
  · skip
    refine g_iload_n dX4_kindMeant_2 rfl ?_
    refine g_gets dX4_kindMeant_3 sf_X4_68 ?_
    refine t_alro dX4_kindMeant_6 (by decide) (by decide) rfl ?_
    refine g_icmp_ge (tgt := 30) dX4_kindMeant_7 (by decide) (fun c7 => ?_) (fun c7 => ?_)
    · exact absurd (nI_lt hk (by decide)) (Int32.not_lt.mpr c7)
    · skip
      refine g_gets dX4_kindMeant_10 sf_X4_68 ?_
      refine g_iload_n dX4_kindMeant_13 rfl ?_
      refine t_iaro dX4_kindMeant_14 (by decide) (by decide) rfl (in_nI hk (by decide)) ?_
      rw [cl_nI (by omega)]
      refine g_aload_n dX4_kindMeant_15 rfl ?_
      refine g_callVi dX4_kindMeant_16 ln_X4_57 ⟨_, rfl⟩ rfl (by decide) ⟨_, _, rfl⟩ rfl (Nat.le_of_ble_eq_true rfl) (Nat.le_of_ble_eq_true rfl) (ct_sign hR ht hs h7 hi) rfl (fun r16 m16 h16 => ?_)
      obtain ⟨rfl, rfl⟩ := h16
      refine g_icmp_ne (tgt := 24) dX4_kindMeant_19 (by decide) (fun c19 => ?_) (fun c19 => ?_)
      · skip
        refine g_iinc dX4_kindMeant_24 rfl (by decide) ?_
        show Go _ _ _ _ _ _ [_, _] _ _ _
        refine g_goto (tgt := 2) dX4_kindMeant_27 (by decide) ?_
        rw [nI_inc]
        exact kk (fun q hq => by
          rcases Nat.lt_or_ge q k with q1 | q1
          · exact hn q q1
          · rw [show q = k by omega]; exact c19)
      · skip
        refine g_iload_n dX4_kindMeant_22 rfl ?_
        refine g_iret dX4_kindMeant_23 (fun ty h => by cases h; rfl) ?_
        exact ⟨by unfold kdM; rw [fstN_some (p := fun k => decide (kLet k = f i)) (i := k) (decide_eq_true c19) (fun j hj => decide_eq_false (hn j hj)) hk]; rfl, rfl⟩
  · skip
    refine g_iload_n dX4_kindMeant_2 rfl ?_
    refine g_gets dX4_kindMeant_3 sf_X4_68 ?_
    refine t_alro dX4_kindMeant_6 (by decide) (by decide) rfl ?_
    refine g_icmp_ge (tgt := 30) dX4_kindMeant_7 (by decide) (fun c7 => ?_) (fun c7 => ?_)
    · skip
      refine g_bipush (v := -9) dX4_kindMeant_30 (by decide) ?_
      refine g_iret dX4_kindMeant_32 (fun ty h => by cases h; rfl) ?_
      exact ⟨by unfold kdM; rw [fstN_none (p := fun k => decide (kLet k = f i)) (fun j hj => decide_eq_false (hn j hj))]; rfl, rfl⟩
    · exact absurd (Int32.le_refl _) c7
theorem ct_skipBlanks {t sz i : Nat} {f : Nat → Int32} (hR : RdC t sz f I) (ht : t < 4) (hs : sz ≤ 80) (h7 : I 19 7 = nI i) (hi9 : i ≤ 100) : Ct X (d + 2) 66 M_X4_skipBlanks 66 [.ref 19] (I, J, rf0) (RV (fun m => m = (upR I 19 (upd (I 19) 7 (nI (skipF f sz i))), J, rf0))) := by
  rw [id_slot h7]
  show Go _ _ _ _ _ _ [_] _ _ _
  refine go_rec (fun n i => sz - i = n → i ≤ 100 → Go X (d + 2) 66 M_X4_skipBlanks 66 0 [.ref 19] [] (upR I 19 (upd (I 19) 7 (nI i)), J, rf0) (RV (fun m => m = (upR I 19 (upd (I 19) 7 (nI (skB f n i))), J, rf0)))) (fun n kk i hn h9 => ?_) (fun i hn h9 => ?_) (sz - i) i rfl hi9
  · skip
    refine g_aload_n dX4_skipBlanks_0 rfl ?_
    refine t_getI dX4_skipBlanks_1 fl_X4_41 rfl (by decide) rfl (by decide) ?_
    rw [upR_s, pk_us]
    refine g_aload_n dX4_skipBlanks_4 rfl ?_
    refine t_getI dX4_skipBlanks_5 fl_X4_38 rfl (by decide) rfl (by decide) ?_
    rw [upR_s, pk_un (by decide), hR.2.1]
    refine g_icmp_ge (tgt := 33) dX4_skipBlanks_8 (by decide) (fun c8 => ?_) (fun c8 => ?_)
    · exact absurd (nI_lt (show i < sz by omega) (by omega)) (Int32.not_lt.mpr c8)
    · skip
      refine g_aload_n dX4_skipBlanks_11 rfl ?_
      refine g_callVi dX4_skipBlanks_12 ln_X4_57 ⟨_, rfl⟩ rfl (by decide) ⟨_, _, rfl⟩ rfl (Nat.le_of_ble_eq_true rfl) (Nat.le_of_ble_eq_true rfl) (ct_sign (i := i) (hR.i ht) ht hs (by rw [upR_s, pk_us]) (by omega)) rfl (fun r12 m12 h12 => ?_)
      obtain ⟨rfl, rfl⟩ := h12
      refine g_bipush (v := 32) dX4_skipBlanks_15 (by decide) ?_
      refine g_icmp_ne (tgt := 33) dX4_skipBlanks_17 (by decide) (fun c17 => ?_) (fun c17 => ?_)
      · skip
        refine g_vret dX4_skipBlanks_33 ?_
        first
          | (rw [show skB f (n + 1) i = i from if_neg c17])
          | rfl
          | fail "no way"
      · skip
        refine g_aload_n dX4_skipBlanks_20 rfl ?_
        refine g_dup dX4_skipBlanks_21 rfl ?_
        refine t_getI dX4_skipBlanks_22 fl_X4_41 rfl (by decide) rfl (by decide) ?_
        rw [upR_s, pk_us]
        refine g_iconst (v := 1) dX4_skipBlanks_25 (by decide) ?_
        refine g_iadd dX4_skipBlanks_26 ?_
        rw [nI_1]
        refine t_putI dX4_skipBlanks_27 fl_X4_41 rfl (by decide) rfl (by decide) ?_
        refine g_goto (tgt := 0) dX4_skipBlanks_30 (by decide) ?_
        rw [up_up, upR_s, updd, show skB f (n + 1) i = skB f n (i + 1) from if_pos c17]
        exact kk (i + 1) (by omega) (by omega)
  · skip
    refine g_aload_n dX4_skipBlanks_0 rfl ?_
    refine t_getI dX4_skipBlanks_1 fl_X4_41 rfl (by decide) rfl (by decide) ?_
    rw [upR_s, pk_us]
    refine g_aload_n dX4_skipBlanks_4 rfl ?_
    refine t_getI dX4_skipBlanks_5 fl_X4_38 rfl (by decide) rfl (by decide) ?_
    rw [upR_s, pk_un (by decide), hR.2.1]
    refine g_icmp_ge (tgt := 33) dX4_skipBlanks_8 (by decide) (fun c8 => ?_) (fun c8 => ?_)
    · skip
      refine g_vret dX4_skipBlanks_33 ?_
      first
        | (rw [show skB f (n + 1) i = i from if_neg c17])
        | rfl
        | fail "no way"
    · exact absurd (nI_le (show sz ≤ i by omega) (by omega)) c8
theorem ct_readPlace {t sz i : Nat} {f : Nat → Int32} (hR : RdC t sz f I) (ht : t < 4) (hs : sz ≤ 80) (h7 : I 19 7 = nI i) {np x : Nat} (hi : i < sz) (h3 : I 19 3 = nI np) (hnp : np ≤ 4) (h4 : I 19 4 = nI x) (hx9 : x ≤ 14) : Ct X (d + 3) 66 M_X4_readPlace 66 [.ref 19] (I, J, rf0) (RI (fun y9 m => ∃ I', m = (I', J, rf0) ∧ Fr [19, 20, 21] I I' ∧ RdC t sz f I' ∧ I' 19 3 = nI np ∧ ((y9 = 0 ∧ ∃ j, plB f sz np x i = .inl j ∧ I' 19 7 = nI j ∧ j ≤ 100) ∨ (y9 = 1 ∧ ∃ k, plB f sz np x i = .inr k ∧ x < 14 ∧ I' 19 7 = nI (i + 1 + np) ∧ I' 19 4 = nI (x + 1) ∧ I' 20 = upd (I 20) x (nI k) ∧ (∀ p, p < np → I' 21 (4 * x + p) = nI (dg (f (i + 1 + p)))) ∧ ∀ q, q < 4 * x → I' 21 q = I 21 q)))) := by
  show Go _ _ _ _ _ _ [_, _, _] _ _ _
  refine g_aload_n dX4_readPlace_0 rfl ?_
  refine g_callVi dX4_readPlace_1 ln_X4_65 ⟨_, rfl⟩ rfl (by decide) ⟨_, _, rfl⟩ rfl (Nat.le_of_ble_eq_true rfl) (Nat.le_of_ble_eq_true rfl) (ct_kindMeant hR ht hs h7 hi) rfl (fun r1 m1 h1 => ?_)
  obtain ⟨rfl, rfl⟩ := h1
  refine g_istore_n dX4_readPlace_4 (by decide) ?_
  show Go _ _ _ _ _ _ [_, _, _] _ _ _
  refine g_iload_n dX4_readPlace_5 rfl ?_
  refine g_bipush (v := -9) dX4_readPlace_6 (by decide) ?_
  refine g_icmp_eq (tgt := 20) dX4_readPlace_8 (by decide) (fun c8 => ?_) (fun c8 => ?_)
  · skip
    refine g_iconst (v := 0) dX4_readPlace_20 (by decide) ?_
    refine g_iret dX4_readPlace_21 (fun ty h => by cases h; rfl) ?_
    refine ⟨I, rfl, Fr.rf, hR, h3, Or.inl ⟨rfl, i, ?_, h7, by omega⟩⟩
    first
      | (refine plB_none ?_
         cases hh : kdM (f i) with
         | none => rfl
         | some q =>
           rw [hh] at c8
           have := kdM_lt hh
           have e := congrArg Int32.toInt (show nI q = -9 from c8)
           rw [nI_toInt (by omega), show (-9 : Int32).toInt = -9 by decide] at e
           omega)
      | (have e : x = 14 := by
           have : ¬ x < 14 := fun q => c17 (nI_lt q (by decide))
           omega
         rw [e]
         exact plB_full hk)
      | fail "no way"
  · skip
    obtain ⟨k, hk⟩ : ∃ k, kdM (f i) = some k := by
      cases hh : kdM (f i) with
      | none => rw [hh] at c8; exact absurd rfl c8
      | some q => exact ⟨q, rfl⟩
    have hk6 := kdM_lt hk
    rw [hk]
    show Go _ _ _ _ _ _ [_, .int (nI k), _] _ _ _
    refine g_aload_n dX4_readPlace_11 rfl ?_
    refine t_getI dX4_readPlace_12 fl_X4_47 rfl (by decide) rfl (by decide) ?_
    rw [h4]
    refine g_bipush (v := 14) dX4_readPlace_15 (by decide) ?_
    refine g_icmp_lt (tgt := 22) dX4_readPlace_17 (by decide) (fun c17 => ?_) (fun c17 => ?_)
    · skip
      have hx : x < 14 := (nI_ltI (by omega) (by decide)).mp c17
      refine g_aload_n dX4_readPlace_22 rfl ?_
      refine t_getR dX4_readPlace_23 fl_X4_9 rfl (by decide) rfl (by decide) rfl ?_
      refine g_aload_n dX4_readPlace_26 rfl ?_
      refine t_getI dX4_readPlace_27 fl_X4_47 rfl (by decide) rfl (by decide) ?_
      rw [h4]
      refine g_iload_n dX4_readPlace_30 rfl ?_
      refine t_iast dX4_readPlace_31 rfl (by decide) (in_nI (by omega) (by decide)) ?_
      rw [cl_nI (by omega)]
      refine g_aload_n dX4_readPlace_32 rfl ?_
      refine g_dup dX4_readPlace_33 rfl ?_
      refine t_getI dX4_readPlace_34 fl_X4_41 rfl (by decide) rfl (by decide) ?_
      rw [upR_n (a := 19) (by decide), h7]
      refine g_iconst (v := 1) dX4_readPlace_37 (by decide) ?_
      refine g_iadd dX4_readPlace_38 ?_
      rw [nI_1]
      refine t_putI dX4_readPlace_39 fl_X4_41 rfl (by decide) rfl (by decide) ?_
      refine g_iconst (v := 0) dX4_readPlace_42 (by decide) ?_
      refine g_istore_n dX4_readPlace_43 (by decide) ?_
      show Go _ _ _ _ _ _ [_, _, _] _ _ _
      refine go_mem (fun p I2 => RdC t sz f I2 ∧ I2 19 7 = nI (i + 1 + p) ∧ I2 19 3 = nI np ∧ I2 19 4 = nI x ∧ Fr [19, 20, 21] I I2 ∧ I2 20 = upd (I 20) x (nI k) ∧ (∀ q, q < p → nxB f sz (i + 1 + q) 48 57 = true) ∧ (∀ q, q < p → I2 21 (4 * x + q) = nI (dg (f (i + 1 + q)))) ∧ ∀ q, q < 4 * x → I2 21 q = I 21 q) np (fun p I2 => Go X (d + 3) 66 M_X4_readPlace 66 44 [.ref 19, .int (nI k), .int (nI p)] [] (I2, J, rf0) (RI (fun y9 m => ∃ I', m = (I', J, rf0) ∧ Fr [19, 20, 21] I I' ∧ RdC t sz f I' ∧ I' 19 3 = nI np ∧ ((y9 = 0 ∧ ∃ j, plB f sz np x i = .inl j ∧ I' 19 7 = nI j ∧ j ≤ 100) ∨ (y9 = 1 ∧ ∃ k, plB f sz np x i = .inr k ∧ x < 14 ∧ I' 19 7 = nI (i + 1 + np) ∧ I' 19 4 = nI (x + 1) ∧ I' 20 = upd (I 20) x (nI k) ∧ (∀ p, p < np → I' 21 (4 * x + p) = nI (dg (f (i + 1 + p)))) ∧ ∀ q, q < 4 * x → I' 21 q = I 21 q))))) (fun p I2 hp h2 kk => ?_) (fun I2 h2 => ?_) _ ?_
      · skip
        refine g_iload_n dX4_readPlace_44 rfl ?_
        refine g_aload_n dX4_readPlace_45 rfl ?_
        refine t_getI dX4_readPlace_46 fl_X4_44 rfl (by decide) rfl (by decide) ?_
        rw [h2.2.2.1]
        refine g_icmp_ge (tgt := 101) dX4_readPlace_49 (by decide) (fun c49 => ?_) (fun c49 => ?_)
        · exact absurd (nI_lt hp (by omega)) (Int32.not_lt.mpr c49)
        · skip
          refine g_aload_n dX4_readPlace_52 rfl ?_
          refine g_bipush (v := 48) dX4_readPlace_53 (by decide) ?_
          refine g_bipush (v := 57) dX4_readPlace_55 (by decide) ?_
          refine g_callVi dX4_readPlace_57 ln_X4_53 ⟨_, rfl⟩ rfl (by decide) ⟨_, _, rfl⟩ rfl (Nat.le_of_ble_eq_true rfl) (Nat.le_of_ble_eq_true rfl) (ct_isNext (i := i + 1 + p) (lo := 48) (hi := 57) h2.1 ht hs h2.2.1 (by omega)) rfl (fun r57 m57 h57 => ?_)
          obtain ⟨rfl, rfl⟩ := h57
          refine g_if_ne (tgt := 65) dX4_readPlace_60 (by decide) (fun c60 => ?_) (fun c60 => ?_)
          · skip
            refine g_aload_n dX4_readPlace_65 rfl ?_
            refine t_getR dX4_readPlace_66 fl_X4_15 rfl (by decide) rfl (by decide) rfl ?_
            refine g_aload_n dX4_readPlace_69 rfl ?_
            refine t_getI dX4_readPlace_70 fl_X4_47 rfl (by decide) rfl (by decide) ?_
            rw [h2.2.2.2.1]
            refine g_iconst (v := 4) dX4_readPlace_73 (by decide) ?_
            refine g_imul dX4_readPlace_74 ?_
            refine g_iload_n dX4_readPlace_75 rfl ?_
            refine g_iadd dX4_readPlace_76 ?_
            rw [ix4]
            refine g_aload_n dX4_readPlace_77 rfl ?_
            refine g_callVi dX4_readPlace_78 ln_X4_57 ⟨_, rfl⟩ rfl (by decide) ⟨_, _, rfl⟩ rfl (Nat.le_of_ble_eq_true rfl) (Nat.le_of_ble_eq_true rfl) (ct_sign (i := i + 1 + p) h2.1 ht hs h2.2.1 (nx_t (bI_ne c60)).1) rfl (fun r78 m78 h78 => ?_)
            obtain ⟨rfl, rfl⟩ := h78
            refine g_bipush (v := 48) dX4_readPlace_81 (by decide) ?_
            refine g_isub dX4_readPlace_83 ?_
            have hq := nx_t (bI_ne c60)
            rw [dg_sub hq.2.1 hq.2.2]
            refine t_iast dX4_readPlace_84 rfl (by decide) (in_nI (by omega) (by decide)) ?_
            refine g_aload_n dX4_readPlace_85 rfl ?_
            refine g_dup dX4_readPlace_86 rfl ?_
            refine t_getI dX4_readPlace_87 fl_X4_41 rfl (by decide) rfl (by decide) ?_
            rw [upR_n (a := 19) (by decide), h2.2.1]
            refine g_iconst (v := 1) dX4_readPlace_90 (by decide) ?_
            refine g_iadd dX4_readPlace_91 ?_
            rw [nI_1]
            refine t_putI dX4_readPlace_92 fl_X4_41 rfl (by decide) rfl (by decide) ?_
            refine g_iinc dX4_readPlace_95 rfl (by decide) ?_
            show Go _ _ _ _ _ _ [_, _, _] _ _ _
            refine g_goto (tgt := 44) dX4_readPlace_98 (by decide) ?_
            rw [nI_inc, cl_nI (by omega)]
            refine kk _ ⟨(h2.1.keep ht ((Fr.rf.up (by decide)).up (by decide)) (by rw [upR_s, pk_un (by decide), upR_n (by decide)]) (by rw [upR_s, pk_un (by decide), upR_n (by decide)])), by rw [upR_s, pk_us]; rfl, by rw [upR_s, pk_un (by decide), upR_n (by decide)]; exact h2.2.2.1, by rw [upR_s, pk_un (by decide), upR_n (by decide)]; exact h2.2.2.2.1, (h2.2.2.2.2.1.up (by decide)).up (by decide), by rw [upR_n (by decide), upR_n (by decide)]; exact h2.2.2.2.2.2.1, fun q hq9 => ?_, fun q hq9 => ?_, fun q hq9 => ?_⟩
            · rcases Nat.lt_or_ge q p with q1 | q1
              · exact h2.2.2.2.2.2.2.1 q q1
              · rw [show q = p by omega]; exact bI_ne c60
            · rw [upR_n (by decide), upR_s]
              rcases Nat.lt_or_ge q p with q1 | q1
              · rw [pk_un (by omega)]; exact h2.2.2.2.2.2.2.2.1 q q1
              · rw [show q = p by omega, pk_us]
            · rw [upR_n (by decide), upR_s, pk_un (by omega)]; exact h2.2.2.2.2.2.2.2.2 q hq9
          · skip
            refine g_iconst (v := 0) dX4_readPlace_63 (by decide) ?_
            refine g_iret dX4_readPlace_64 (fun ty h => by cases h; rfl) ?_
            exact ⟨I2, rfl, h2.2.2.2.2.1, h2.1, h2.2.2.1, Or.inl ⟨rfl, i + 1 + p, plB_bad hk hx hp (bI_eq c60) h2.2.2.2.2.2.2.1, h2.2.1, by omega⟩⟩
      · skip
        refine g_iload_n dX4_readPlace_44 rfl ?_
        refine g_aload_n dX4_readPlace_45 rfl ?_
        refine t_getI dX4_readPlace_46 fl_X4_44 rfl (by decide) rfl (by decide) ?_
        rw [h2.2.2.1]
        refine g_icmp_ge (tgt := 101) dX4_readPlace_49 (by decide) (fun c49 => ?_) (fun c49 => ?_)
        · skip
          refine g_aload_n dX4_readPlace_101 rfl ?_
          refine g_dup dX4_readPlace_102 rfl ?_
          refine t_getI dX4_readPlace_103 fl_X4_47 rfl (by decide) rfl (by decide) ?_
          rw [h2.2.2.2.1]
          refine g_iconst (v := 1) dX4_readPlace_106 (by decide) ?_
          refine g_iadd dX4_readPlace_107 ?_
          rw [nI_1]
          refine t_putI dX4_readPlace_108 fl_X4_47 rfl (by decide) rfl (by decide) ?_
          refine g_iconst (v := 1) dX4_readPlace_111 (by decide) ?_
          refine g_iret dX4_readPlace_112 (fun ty h => by cases h; rfl) ?_
          exact ⟨_, rfl, h2.2.2.2.2.1.up (by decide), h2.1.keep ht (Fr.rf.up (by decide)) (by rw [upR_s, pk_un (by decide)]) (by rw [upR_s, pk_un (by decide)]), by rw [upR_s, pk_un (by decide)]; exact h2.2.2.1, Or.inr ⟨rfl, k, plB_ok hk hx h2.2.2.2.2.2.2.1, hx, by rw [upR_s, pk_un (by decide)]; exact h2.2.1, by rw [upR_s, pk_us], by rw [upR_n (by decide)]; exact h2.2.2.2.2.2.1, fun q hq => by rw [upR_n (by decide)]; exact h2.2.2.2.2.2.2.2.1 q hq, fun q hq => by rw [upR_n (by decide)]; exact h2.2.2.2.2.2.2.2.2 q hq⟩⟩
        · exact absurd (Int32.le_refl _) c49
      · refine ⟨hR.keep ht ((Fr.rf.up (by decide)).up (by decide)) (by rw [upR_s, pk_un (by decide), upR_n (by decide)]) (by rw [upR_s, pk_un (by decide), upR_n (by decide)]), by rw [upR_s, pk_us], by rw [upR_s, pk_un (by decide), upR_n (by decide)]; exact h3, by rw [upR_s, pk_un (by decide), upR_n (by decide)]; exact h4, (Fr.rf.up (by decide)).up (by decide), by rw [upR_n (by decide), upR_s], fun q hq => absurd hq (Nat.not_lt_zero q), fun q hq => absurd hq (Nat.not_lt_zero q), fun q hq => by rw [upR_n (by decide), upR_n (by decide)]⟩
    · skip
      refine g_iconst (v := 0) dX4_readPlace_20 (by decide) ?_
      refine g_iret dX4_readPlace_21 (fun ty h => by cases h; rfl) ?_
      refine ⟨I, rfl, Fr.rf, hR, h3, Or.inl ⟨rfl, i, ?_, h7, by omega⟩⟩
      first
        | (refine plB_none ?_
           cases hh : kdM (f i) with
           | none => rfl
           | some q =>
             rw [hh] at c8
             have := kdM_lt hh
             have e := congrArg Int32.toInt (show nI q = -9 from c8)
             rw [nI_toInt (by omega), show (-9 : Int32).toInt = -9 by decide] at e
             omega)
        | (have e : x = 14 := by
             have : ¬ x < 14 := fun q => c17 (nI_lt q (by decide))
             omega
           rw [e]
           exact plB_full hk)
        | fail "no way"
def RdR (o jp jx kc nc : Nat) (R : Nat ⊕ Pce) (e y : Int32) (I : Nat → Nat → Int32) : Prop := match R with
  | .inl j => y = nI j ∧ j ≤ 100
  | .inr P => y = e ∧ PcV o jp jx kc nc P I
theorem dg_24 {v : Int32} (h1 : 50 ≤ v) (h2 : v ≤ 52) : 2 ≤ dg v ∧ dg v ≤ 4 ∧ v - 48 = nI (dg v) := by
  have z50 : (50 : Int32).toInt = 50 := by decide
  have z52 : (52 : Int32).toInt = 52 := by decide
  have z48 : (48 : Int32).toInt = 48 := by decide
  have z57 : (57 : Int32).toInt = 57 := by decide
  have h1' := h1
  have h2' := h2
  rw [Int32.le_iff_toInt_le, z50] at h1'
  rw [Int32.le_iff_toInt_le, z52] at h2'
  have e := dg_sub (v := v) (Int32.le_iff_toInt_le.mpr (by omega)) (Int32.le_iff_toInt_le.mpr (by omega))
  have e2 := congrArg Int32.toInt e
  obtain ⟨n, hn, rfl⟩ := nI_of (x := v) (fun q => by
    rw [Int32.lt_iff_toInt_lt] at q
    have z : (0 : Int32).toInt = 0 := by decide
    omega)
  rw [nI_toInt hn] at h1' h2'
  unfold dg at e e2 ⊢
  rw [cl_nI hn] at e e2 ⊢
  rw [Nat.mod_eq_of_lt (by omega)] at e e2 ⊢
  exact ⟨by omega, by omega, e⟩
theorem rd_end {f : Nat → Int32} {sz np n : Nat} {s : Prd} (h : ¬ s.2.1 < sz) : rdLoop f sz np n s = .inr s := by
  cases n with
  | zero => rfl
  | succ n => exact if_neg h
theorem rd_bad {f : Nat → Int32} {sz np n j : Nat} {s : Prd} (h : s.2.1 < sz) (h1 : plB f sz np s.1 s.2.1 = .inl j) : rdLoop f sz np (n + 1) s = .inl j := by
  show (if s.2.1 < sz then _ else _) = _
  rw [if_pos h, h1]
theorem rd_ok {f : Nat → Int32} {sz np n k : Nat} {s : Prd} (h : s.2.1 < sz) (h1 : plB f sz np s.1 s.2.1 = .inr k) : rdLoop f sz np (n + 1) s = rdLoop f sz np n (rdNx f sz np k s) := by
  show (if s.2.1 < sz then _ else _) = _
  rw [if_pos h, h1]
theorem rd_fin {o jp jx kc nc np : Nat} {s : Prd} {e y : Int32} (h0 : s.1 = 0 → y = nI s.2.1 ∧ s.2.1 ≤ 100) (h1 : ¬ s.1 = 0 → y = e ∧ PcV o jp jx kc nc (np, s.1, s.2.2.1, s.2.2.2) I) : RdR o jp jx kc nc (rdFin np (.inr s)) e y I := by
  by_cases h : s.1 = 0
  · rw [show rdFin np (.inr s) = .inl s.2.1 from if_pos h]; exact h0 h
  · rw [show rdFin np (.inr s) = .inr (np, s.1, s.2.2.1, s.2.2.2) from if_neg h]; exact h1 h
theorem ct_read {t sz : Nat} {f : Nat → Int32} (ht : t < 4) (hs : sz ≤ 80) (h13 : I 13 t = nI sz) (hf : ∀ q, q < sz → I (15 + t) q = f q) : Ct X (d + 4) 66 M_X4_read 66 [.ref 19, .int (nI t)] (I, J, rf0) (RI (fun y9 m => ∃ I', m = (I', J, rf0) ∧ Fr [19, 20, 21] I I' ∧ RdR 19 3 4 20 21 (rdAll f sz) (-9) y9 I')) := by
  show Go _ _ _ _ _ _ [_, _, _] _ _ _
  refine g_aload_n dX4_read_0 rfl ?_
  refine g_iload_n dX4_read_1 rfl ?_
  refine t_putI dX4_read_2 fl_X4_22 rfl (by decide) rfl (by decide) ?_
  refine g_aload_n dX4_read_5 rfl ?_
  refine g_aload_n dX4_read_6 rfl ?_
  refine t_getR dX4_read_7 fl_X4_18 rfl (by decide) rfl (by decide) rfl ?_
  refine t_getR dX4_read_10 fl_X4_26 rfl (by decide) rfl (by decide) rfl ?_
  refine g_iload_n dX4_read_13 rfl ?_
  refine g_callVi dX4_read_14 ln_X4_32 ⟨_, rfl⟩ rfl (by decide) ⟨_, _, rfl⟩ rfl (Nat.le_of_ble_eq_true rfl) (Nat.le_of_ble_eq_true rfl) (ct_of sz_texts) rfl (fun r14 m14 h14 => ?_)
  obtain ⟨rfl, rfl⟩ := h14
  rw [ofV_nI (by decide) ht, upR_n (a := 13) (by decide), h13]
  refine t_putI dX4_read_17 fl_X4_38 rfl (by decide) rfl (by decide) ?_
  refine g_aload_n dX4_read_20 rfl ?_
  refine g_iconst (v := 0) dX4_read_21 (by decide) ?_
  refine t_putI dX4_read_22 fl_X4_41 rfl (by decide) rfl (by decide) ?_
  refine g_aload_n dX4_read_25 rfl ?_
  refine g_iconst (v := 0) dX4_read_26 (by decide) ?_
  refine t_putI dX4_read_27 fl_X4_44 rfl (by decide) rfl (by decide) ?_
  refine g_aload_n dX4_read_30 rfl ?_
  refine g_iconst (v := 0) dX4_read_31 (by decide) ?_
  refine t_putI dX4_read_32 fl_X4_47 rfl (by decide) rfl (by decide) ?_
  refine g_abs (fun I1 => RdC t sz f I1 ∧ I1 19 7 = nI 0 ∧ I1 19 4 = nI 0 ∧ Fr [19, 20, 21] I I1) ?_ (fun I1 h1 => ?_)
  · refine ⟨⟨rfl, rfl, fun q hq => ?_⟩, rfl, rfl, ((((Fr.rf.up (by decide)).up (by decide)).up (by decide)).up (by decide)).up (by decide)⟩
    rw [upR_n (by omega), upR_n (by omega), upR_n (by omega), upR_n (by omega), upR_n (by omega)]
    exact hf q hq
  have hi0 : skipF f sz 0 ≤ 80 := skip_le (by decide) hs
  refine g_aload_n dX4_read_35 rfl ?_
  refine g_callVv dX4_read_36 ln_X4_50 rfl rfl (by decide) ⟨_, _, rfl⟩ rfl (Nat.le_of_ble_eq_true rfl) (Nat.le_of_ble_eq_true rfl) (ct_skipBlanks (i := 0) h1.1 ht hs h1.2.1 (by decide)) rfl (fun m36 h36 => ?_)
  subst h36
  refine g_abs (fun I2 => RdC t sz f I2 ∧ I2 19 7 = nI (skipF f sz 0) ∧ I2 19 4 = nI 0 ∧ Fr [19, 20, 21] I I2) ⟨h1.1.i ht, by rw [upR_s, pk_us], by rw [upR_s, pk_un (by decide)]; exact h1.2.2.1, h1.2.2.2.up (by decide)⟩ (fun I2 h2 => ?_)
  refine g_aload_n dX4_read_39 rfl ?_
  refine g_bipush (v := 113) dX4_read_40 (by decide) ?_
  refine g_bipush (v := 113) dX4_read_42 (by decide) ?_
  refine g_callVi dX4_read_44 ln_X4_53 ⟨_, rfl⟩ rfl (by decide) ⟨_, _, rfl⟩ rfl (Nat.le_of_ble_eq_true rfl) (Nat.le_of_ble_eq_true rfl) (ct_isNext (i := skipF f sz 0) (lo := 113) (hi := 113) h2.1 ht hs h2.2.1 (by omega)) rfl (fun r44 m44 h44 => ?_)
  obtain ⟨rfl, rfl⟩ := h44
  refine g_if_ne (tgt := 55) dX4_read_47 (by decide) (fun c47 => ?_) (fun c47 => ?_)
  · skip
    refine g_aload_n dX4_read_55 rfl ?_
    refine g_dup dX4_read_56 rfl ?_
    refine t_getI dX4_read_57 fl_X4_41 rfl (by decide) rfl (by decide) ?_
    rw [h2.2.1]
    refine g_iconst (v := 1) dX4_read_60 (by decide) ?_
    refine g_iadd dX4_read_61 ?_
    rw [nI_1]
    refine t_putI dX4_read_62 fl_X4_41 rfl (by decide) rfl (by decide) ?_
    refine g_abs (fun I3 => RdC t sz f I3 ∧ I3 19 7 = nI (skipF f sz 0 + 1) ∧ I3 19 4 = nI 0 ∧ Fr [19, 20, 21] I I3) ⟨h2.1.i ht, by rw [upR_s, pk_us], by rw [upR_s, pk_un (by decide)]; exact h2.2.2.1, h2.2.2.2.up (by decide)⟩ (fun I3 h3 => ?_)
    refine g_aload_n dX4_read_65 rfl ?_
    refine g_bipush (v := 50) dX4_read_66 (by decide) ?_
    refine g_bipush (v := 52) dX4_read_68 (by decide) ?_
    refine g_callVi dX4_read_70 ln_X4_53 ⟨_, rfl⟩ rfl (by decide) ⟨_, _, rfl⟩ rfl (Nat.le_of_ble_eq_true rfl) (Nat.le_of_ble_eq_true rfl) (ct_isNext (i := skipF f sz 0 + 1) (lo := 50) (hi := 52) h3.1 ht hs h3.2.1 (by omega)) rfl (fun r70 m70 h70 => ?_)
    obtain ⟨rfl, rfl⟩ := h70
    refine g_if_ne (tgt := 81) dX4_read_73 (by decide) (fun c73 => ?_) (fun c73 => ?_)
    · skip
      have hq2 := nx_t (bI_ne c73)
      have hnp := dg_24 hq2.2.1 hq2.2.2
      refine g_aload_n dX4_read_81 rfl ?_
      refine g_aload_n dX4_read_82 rfl ?_
      refine g_callVi dX4_read_83 ln_X4_57 ⟨_, rfl⟩ rfl (by decide) ⟨_, _, rfl⟩ rfl (Nat.le_of_ble_eq_true rfl) (Nat.le_of_ble_eq_true rfl) (ct_sign (i := skipF f sz 0 + 1) h3.1 ht hs h3.2.1 hq2.1) rfl (fun r83 m83 h83 => ?_)
      obtain ⟨rfl, rfl⟩ := h83
      refine g_bipush (v := 48) dX4_read_86 (by decide) ?_
      refine g_isub dX4_read_88 ?_
      rw [hnp.2.2]
      refine t_putI dX4_read_89 fl_X4_44 rfl (by decide) rfl (by decide) ?_
      refine g_aload_n dX4_read_92 rfl ?_
      refine g_dup dX4_read_93 rfl ?_
      refine t_getI dX4_read_94 fl_X4_41 rfl (by decide) rfl (by decide) ?_
      rw [upR_s, pk_un (by decide), h3.2.1]
      refine g_iconst (v := 1) dX4_read_97 (by decide) ?_
      refine g_iadd dX4_read_98 ?_
      rw [nI_1]
      refine t_putI dX4_read_99 fl_X4_41 rfl (by decide) rfl (by decide) ?_
      obtain ⟨np, hnpe⟩ : ∃ np, np = (dg (f (skipF f sz 0 + 1))) := ⟨_, rfl⟩
      rw [← hnpe] at hnp ⊢
      refine g_abs (fun I4 => RdC t sz f I4 ∧ I4 19 7 = nI (skipF f sz 0 + 1 + 1) ∧ I4 19 4 = nI 0 ∧ Fr [19, 20, 21] I I4 ∧ I4 19 3 = nI np) ⟨(h3.1.keep ht ((Fr.rf.up (by decide)).up (by decide)) (by rw [upR_s, pk_un (by decide), upR_s, pk_un (by decide)]) (by rw [upR_s, pk_un (by decide), upR_s, pk_un (by decide)])), by rw [upR_s, pk_us], by rw [upR_s, pk_un (by decide), upR_s, pk_un (by decide)]; exact h3.2.2.1, (h3.2.2.2.up (by decide)).up (by decide), by rw [upR_s, pk_un (by decide), upR_s, pk_us]⟩ (fun I4 h4 => ?_)
      refine g_aload_n dX4_read_102 rfl ?_
      refine g_callVv dX4_read_103 ln_X4_50 rfl rfl (by decide) ⟨_, _, rfl⟩ rfl (Nat.le_of_ble_eq_true rfl) (Nat.le_of_ble_eq_true rfl) (ct_skipBlanks (i := skipF f sz 0 + 1 + 1) h4.1 ht hs h4.2.1 (by omega)) rfl (fun m103 h103 => ?_)
      subst h103
      have hS : rdAll f sz = rdFin np (rdLoop f sz np 15 (0, skipF f sz (skipF f sz 0 + 1 + 1), fun _ => 0, fun _ _ => 0)) := by
        unfold rdAll
        rw [bI_ne c47, bI_ne c73, hnpe]; rfl
      rw [hS]
      refine g_iconst (v := 0) dX4_read_106 (by decide) ?_
      refine g_istore_n dX4_read_107 (by decide) ?_
      show Go _ _ _ _ _ _ [_, _, _] _ _ _
      refine go_rec (σ := (Nat → Nat → Int32) × Prd) (fun n q => ∀ I2 s, q = (I2, s) → n + s.1 = 15 → RdC t sz f I2 ∧ I2 19 7 = nI s.2.1 ∧ s.2.1 ≤ 90 ∧ Fr [19, 20, 21] I I2 ∧ PcV 19 3 4 20 21 (np, s.1, s.2.2.1, s.2.2.2) I2 → Go X (d + 4) 66 M_X4_read 66 108 [.ref 19, .int (nI t), .int (nI s.1)] [] (I2, J, rf0) (RI (fun y9 m => ∃ I', m = (I', J, rf0) ∧ Fr [19, 20, 21] I I' ∧ RdR 19 3 4 20 21 (rdFin np (rdLoop f sz np n s)) (-9) y9 I'))) (fun n kk q I2 s hq hn h5 => ?_) (fun q I2 s hq hn h5 => ?_) 15 (_, (0, skipF f sz (skipF f sz 0 + 1 + 1), fun _ => 0, fun _ _ => 0)) _ _ rfl rfl ⟨h4.1.i ht, by rw [upR_s, pk_us], Nat.le_trans (skip_le (b := 82) (by omega) (by omega)) (by decide), h4.2.2.2.1.up (by decide), by rw [upR_s, pk_un (by decide)]; exact h4.2.2.2.2, by rw [upR_s, pk_un (by decide)]; exact h4.2.2.1, fun x hx => absurd hx (Nat.not_lt_zero x), fun x hx => absurd hx (Nat.not_lt_zero x)⟩
      · skip
        refine g_iload_n dX4_read_108 rfl ?_
        refine g_bipush (v := 14) dX4_read_109 (by decide) ?_
        refine g_icmp_gt (tgt := 147) dX4_read_111 (by decide) (fun c111 => ?_) (fun c111 => ?_)
        · exact absurd c111 (Int32.not_lt.mpr (nI_le (show s.1 ≤ 14 by omega) (by decide)))
        · skip
          refine g_aload_n dX4_read_114 rfl ?_
          refine t_getI dX4_read_115 fl_X4_41 rfl (by decide) rfl (by decide) ?_
          rw [h5.2.1]
          refine g_aload_n dX4_read_118 rfl ?_
          refine t_getI dX4_read_119 fl_X4_38 rfl (by decide) rfl (by decide) ?_
          rw [h5.1.2.1]
          refine g_icmp_ge (tgt := 147) dX4_read_122 (by decide) (fun c122 => ?_) (fun c122 => ?_)
          · skip
            refine g_aload_n dX4_read_147 rfl ?_
            refine t_getI dX4_read_148 fl_X4_47 rfl (by decide) rfl (by decide) ?_
            rw [h5.2.2.2.2.2.1]
            refine g_if_ne (tgt := 161) dX4_read_151 (by decide) (fun c151 => ?_) (fun c151 => ?_)
            · skip
              refine g_bipush (v := -9) dX4_read_161 (by decide) ?_
              refine g_iret dX4_read_163 (fun ty h => by cases h; rfl) ?_
              refine ⟨I2, rfl, h5.2.2.2.1, ?_⟩
              have hend : ∀ m, m = 0 ∨ ¬ s.2.1 < sz → rdLoop f sz np m s = .inr s := fun m hm => hm.elim (fun e => by rw [e]; rfl) rd_end
              first
                | (have hge : ¬ s.2.1 < sz := fun q => absurd (nI_lt q (by omega)) (Int32.not_lt.mpr c122)
                   rw [hend _ (Or.inr hge)]
                   refine rd_fin (fun h0 => ⟨?_, by omega⟩) (fun h0 => ⟨?_, h5.2.2.2.2⟩)
                   · first
                       | rfl
                       | exact absurd (by rw [h0]; rfl) c151
                       | fail "no way"
                   · first
                       | rfl
                       | exact absurd ((nI_eq (by omega) (by decide)).mp (show nI s.1 = nI 0 from c151)) h0)
                | (rw [hend _ (Or.inl rfl)]
                   refine rd_fin (fun h0 => by omega) (fun h0 => ⟨?_, h5.2.2.2.2⟩)
                   first
                     | rfl
                     | exact absurd ((nI_eq (by omega) (by decide)).mp (show nI s.1 = nI 0 from c151)) h0)
                | fail "no way"
            · skip
              refine g_aload_n dX4_read_154 rfl ?_
              refine t_getI dX4_read_155 fl_X4_41 rfl (by decide) rfl (by decide) ?_
              rw [h5.2.1]
              refine g_goto (tgt := 163) dX4_read_158 (by decide) ?_
              refine g_iret dX4_read_163 (fun ty h => by cases h; rfl) ?_
              refine ⟨I2, rfl, h5.2.2.2.1, ?_⟩
              have hend : ∀ m, m = 0 ∨ ¬ s.2.1 < sz → rdLoop f sz np m s = .inr s := fun m hm => hm.elim (fun e => by rw [e]; rfl) rd_end
              first
                | (have hge : ¬ s.2.1 < sz := fun q => absurd (nI_lt q (by omega)) (Int32.not_lt.mpr c122)
                   rw [hend _ (Or.inr hge)]
                   refine rd_fin (fun h0 => ⟨?_, by omega⟩) (fun h0 => ⟨?_, h5.2.2.2.2⟩)
                   · first
                       | rfl
                       | exact absurd (by rw [h0]; rfl) c151
                       | fail "no way"
                   · first
                       | rfl
                       | exact absurd ((nI_eq (by omega) (by decide)).mp (show nI s.1 = nI 0 from c151)) h0)
                | (rw [hend _ (Or.inl rfl)]
                   refine rd_fin (fun h0 => by omega) (fun h0 => ⟨?_, h5.2.2.2.2⟩)
                   first
                     | rfl
                     | exact absurd ((nI_eq (by omega) (by decide)).mp (show nI s.1 = nI 0 from c151)) h0)
                | fail "no way"
          · skip
            have hlt : s.2.1 < sz := Nat.lt_of_not_le (fun q => c122 (nI_le q (by omega)))
            refine g_aload_n dX4_read_125 rfl ?_
            refine g_callVi dX4_read_126 ln_X4_61 ⟨_, rfl⟩ rfl (by decide) ⟨_, _, rfl⟩ rfl (Nat.le_of_ble_eq_true rfl) (Nat.le_of_ble_eq_true rfl) (ct_readPlace (i := s.2.1) (np := np) (x := s.1) h5.1 ht hs h5.2.1 hlt h5.2.2.2.2.1 hnp.2.1 h5.2.2.2.2.2.1 (by omega)) rfl (fun r126 m126 h126 => ?_)
            obtain ⟨I6, rfl, h6f, h6R, h63, h6⟩ := h126
            rcases h6 with ⟨rfl, j, hpl, hj7, hj9⟩ | ⟨rfl, k, hpl, hx14, h67, h64, h620, h621, h621b⟩
            · skip
              refine g_if_ne (tgt := 137) dX4_read_129 (by decide) (fun c129 => ?_) (fun c129 => ?_)
              · exact absurd rfl c129
              · skip
                refine g_aload_n dX4_read_132 rfl ?_
                refine t_getI dX4_read_133 fl_X4_41 rfl (by decide) rfl (by decide) ?_
                refine g_iret dX4_read_136 (fun ty h => by cases h; rfl) ?_
                refine ⟨I6, rfl, h5.2.2.2.1.trans h6f, ?_⟩
                rw [rd_bad hlt hpl]
                exact ⟨hj7, hj9⟩
            · skip
              refine g_if_ne (tgt := 137) dX4_read_129 (by decide) (fun c129 => ?_) (fun c129 => ?_)
              · skip
                refine g_aload_n dX4_read_137 rfl ?_
                refine g_callVv dX4_read_138 ln_X4_50 rfl rfl (by decide) ⟨_, _, rfl⟩ rfl (Nat.le_of_ble_eq_true rfl) (Nat.le_of_ble_eq_true rfl) (ct_skipBlanks (i := s.2.1 + 1 + np) h6R ht hs h67 (by omega)) rfl (fun m138 h138 => ?_)
                subst h138
                refine g_iinc dX4_read_141 rfl (by decide) ?_
                show Go _ _ _ _ _ _ [_, _, _] _ _ _
                refine g_goto (tgt := 108) dX4_read_144 (by decide) ?_
                rw [nI_inc, rd_ok hlt hpl]
                refine kk (_, rdNx f sz np k s) _ (rdNx f sz np k s) rfl (by show n + (s.1 + 1) = 15; omega) ⟨h6R.i ht, by rw [upR_s, pk_us]; rfl, Nat.le_trans (skip_le (b := 90) (by omega) (by omega)) (by decide), (h5.2.2.2.1.trans h6f).up (by decide), by rw [upR_s, pk_un (by decide)]; exact h63, by rw [upR_s, pk_un (by decide)]; exact h64, fun x hx => ?_, fun x hx p hp => ?_⟩
                · have hx' : x < s.1 + 1 := hx
                  show (upR (β := Nat → Int32) _ 19 _) 20 x = nI (upR s.2.2.1 s.1 k x)
                  rw [upR_n (by decide), h620]
                  by_cases e : x = s.1
                  · rw [e, pk_us, upR_s]
                  · rw [pk_un e, upR_n e]; exact h5.2.2.2.2.2.2.1 x (show x < s.1 by omega)
                · have hx' : x < s.1 + 1 := hx
                  have hp' : p < np := hp
                  show (upR (β := Nat → Int32) _ 19 _) 21 (4 * x + p) = nI (upR s.2.2.2 s.1 (fun p => dg (f (s.2.1 + 1 + p))) x p)
                  rw [upR_n (by decide)]
                  by_cases e : x = s.1
                  · rw [e, upR_s, h621 p hp']
                  · rw [upR_n e, h621b _ (by omega)]; exact h5.2.2.2.2.2.2.2 x (show x < s.1 by omega) p hp' 
              · exact absurd c129 (by decide)
      · skip
        refine g_iload_n dX4_read_108 rfl ?_
        refine g_bipush (v := 14) dX4_read_109 (by decide) ?_
        refine g_icmp_gt (tgt := 147) dX4_read_111 (by decide) (fun c111 => ?_) (fun c111 => ?_)
        · skip
          refine g_aload_n dX4_read_147 rfl ?_
          refine t_getI dX4_read_148 fl_X4_47 rfl (by decide) rfl (by decide) ?_
          rw [h5.2.2.2.2.2.1]
          refine g_if_ne (tgt := 161) dX4_read_151 (by decide) (fun c151 => ?_) (fun c151 => ?_)
          · skip
            refine g_bipush (v := -9) dX4_read_161 (by decide) ?_
            refine g_iret dX4_read_163 (fun ty h => by cases h; rfl) ?_
            refine ⟨I2, rfl, h5.2.2.2.1, ?_⟩
            have hend : ∀ m, m = 0 ∨ ¬ s.2.1 < sz → rdLoop f sz np m s = .inr s := fun m hm => hm.elim (fun e => by rw [e]; rfl) rd_end
            first
              | (have hge : ¬ s.2.1 < sz := fun q => absurd (nI_lt q (by omega)) (Int32.not_lt.mpr c122)
                 rw [hend _ (Or.inr hge)]
                 refine rd_fin (fun h0 => ⟨?_, by omega⟩) (fun h0 => ⟨?_, h5.2.2.2.2⟩)
                 · first
                     | rfl
                     | exact absurd (by rw [h0]; rfl) c151
                     | fail "no way"
                 · first
                     | rfl
                     | exact absurd ((nI_eq (by omega) (by decide)).mp (show nI s.1 = nI 0 from c151)) h0)
              | (rw [hend _ (Or.inl rfl)]
                 refine rd_fin (fun h0 => by omega) (fun h0 => ⟨?_, h5.2.2.2.2⟩)
                 first
                   | rfl
                   | exact absurd ((nI_eq (by omega) (by decide)).mp (show nI s.1 = nI 0 from c151)) h0)
              | fail "no way"
          · skip
            refine g_aload_n dX4_read_154 rfl ?_
            refine t_getI dX4_read_155 fl_X4_41 rfl (by decide) rfl (by decide) ?_
            rw [h5.2.1]
            refine g_goto (tgt := 163) dX4_read_158 (by decide) ?_
            refine g_iret dX4_read_163 (fun ty h => by cases h; rfl) ?_
            refine ⟨I2, rfl, h5.2.2.2.1, ?_⟩
            have hend : ∀ m, m = 0 ∨ ¬ s.2.1 < sz → rdLoop f sz np m s = .inr s := fun m hm => hm.elim (fun e => by rw [e]; rfl) rd_end
            first
              | (have hge : ¬ s.2.1 < sz := fun q => absurd (nI_lt q (by omega)) (Int32.not_lt.mpr c122)
                 rw [hend _ (Or.inr hge)]
                 refine rd_fin (fun h0 => ⟨?_, by omega⟩) (fun h0 => ⟨?_, h5.2.2.2.2⟩)
                 · first
                     | rfl
                     | exact absurd (by rw [h0]; rfl) c151
                     | fail "no way"
                 · first
                     | rfl
                     | exact absurd ((nI_eq (by omega) (by decide)).mp (show nI s.1 = nI 0 from c151)) h0)
              | (rw [hend _ (Or.inl rfl)]
                 refine rd_fin (fun h0 => by omega) (fun h0 => ⟨?_, h5.2.2.2.2⟩)
                 first
                   | rfl
                   | exact absurd ((nI_eq (by omega) (by decide)).mp (show nI s.1 = nI 0 from c151)) h0)
              | fail "no way"
        · exact absurd (nI_lt (show 14 < s.1 by omega) (by omega)) c111
    · skip
      refine g_aload_n dX4_read_76 rfl ?_
      refine t_getI dX4_read_77 fl_X4_41 rfl (by decide) rfl (by decide) ?_
      rw [h3.2.1]
      refine g_iret dX4_read_80 (fun ty h => by cases h; rfl) ?_
      refine ⟨_, rfl, h3.2.2.2, ?_⟩
      rw [show rdAll f sz = .inl (skipF f sz 0 + 1) by unfold rdAll; rw [bI_ne c47, bI_eq c73]; rfl]
      exact ⟨rfl, by omega⟩
  · skip
    refine g_aload_n dX4_read_50 rfl ?_
    refine t_getI dX4_read_51 fl_X4_41 rfl (by decide) rfl (by decide) ?_
    rw [h2.2.1]
    refine g_iret dX4_read_54 (fun ty h => by cases h; rfl) ?_
    refine ⟨_, rfl, h2.2.2.2, ?_⟩
    rw [show rdAll f sz = .inl (skipF f sz 0) by unfold rdAll; rw [bI_eq c47]; rfl]
    exact ⟨rfl, by omega⟩
end
