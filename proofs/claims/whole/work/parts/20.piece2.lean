section
variable {X : Nat × (Nat → Int32)} {d : Nat} {I : Nat → Nat → Int32} {J : Nat → Nat → Int64}
/-- the first of n that has p -/
def fstN (p : Nat → Bool) : Nat → Option Nat
  | 0 => none
  | n + 1 => match fstN p n with
    | some i => some i
    | none => if p n then some n else none
theorem fstN_none {p : Nat → Bool} : ∀ {n : Nat}, (∀ i, i < n → p i = false) → fstN p n = none
  | 0, _ => rfl
  | n + 1, h => by
    unfold fstN
    rw [fstN_none (n := n) (fun i hi => h i (by omega)), h n (by omega)]
    rfl
theorem fstN_some {p : Nat → Bool} {i : Nat} (hp : p i = true) (h : ∀ j, j < i → p j = false) : ∀ {n : Nat}, i < n → fstN p n = some i
  | 0, q => absurd q (by omega)
  | n + 1, q => by
    unfold fstN
    rcases Nat.lt_or_ge i n with q2 | q2
    · rw [fstN_some hp h q2]
    · have e : i = n := by omega
      subst e
      rw [fstN_none h, hp]
      rfl
theorem fstN_spec {p : Nat → Bool} {i : Nat} : ∀ {n : Nat}, fstN p n = some i → i < n ∧ p i = true
  | 0, h => by cases h
  | n + 1, h => by
    unfold fstN at h
    cases hh : fstN p n with
    | some j => rw [hh] at h; cases h; exact ⟨by have := (fstN_spec hh).1; omega, (fstN_spec hh).2⟩
    | none =>
      rw [hh] at h
      cases hp : p n with
      | true => rw [hp] at h; cases h; exact ⟨by omega, hp⟩
      | false => rw [hp] at h; cases h
def oneN (P : Pce) (x : Nat) : Bool := decide (∀ a, a < P.1 → ∀ b, b < P.1 → 0 ≤ sndS P a (x : Int) → 0 ≤ sndS P b (x : Int) → sndS P a (x : Int) = sndS P b (x : Int))
def onlyF (P : Pce) (x : Nat) (p : Nat) (s : Int) : Int := if 0 ≤ sndS P p (x : Int) then sndS P p (x : Int) else s
theorem only_rng {P : Pce} (hO : PcOK P) (x : Nat) : ∀ p, -1 ≤ foldN (onlyF P x) (-1) p ∧ foldN (onlyF P x) (-1) p ≤ 7
  | 0 => ⟨Int.le_refl _, show (-1 : Int) ≤ 7 by decide⟩
  | p + 1 => by
    have h1 := only_rng hO x p
    have h2 := sndS_rng P hO p (x : Int)
    show -1 ≤ onlyF P x p (foldN (onlyF P x) (-1) p) ∧ onlyF P x p (foldN (onlyF P x) (-1) p) ≤ 7
    generalize foldN (onlyF P x) (-1) p = s at h1 ⊢
    unfold onlyF
    split <;> omega
theorem only_ex {P : Pce} (x : Nat) : ∀ p, 0 ≤ foldN (onlyF P x) (-1) p → ∃ q, q < p ∧ sndS P q (x : Int) = foldN (onlyF P x) (-1) p
  | 0, h => absurd h (show ¬ (0 : Int) ≤ -1 by decide)
  | p + 1, h => by
    have e : foldN (onlyF P x) (-1) (p + 1) = onlyF P x p (foldN (onlyF P x) (-1) p) := rfl
    rw [e] at h ⊢
    unfold onlyF at h ⊢
    by_cases hs : 0 ≤ sndS P p (x : Int)
    · rw [if_pos hs]; exact ⟨p, by omega, rfl⟩
    · rw [if_neg hs] at h ⊢
      obtain ⟨q, hq, e⟩ := only_ex x p h
      exact ⟨q, by omega, e⟩
/-- what the loop has let pass -/
def onlyOK (P : Pce) (x q : Nat) : Prop := sndS P q (x : Int) < 0 ∨ foldN (onlyF P x) (-1) q < 0 ∨ sndS P q (x : Int) = foldN (onlyF P x) (-1) q
theorem only_all {P : Pce} (x : Nat) : ∀ p, (∀ q, q < p → onlyOK P x q) → ∀ q, q < p → 0 ≤ sndS P q (x : Int) → sndS P q (x : Int) = foldN (onlyF P x) (-1) p
  | 0, _, q, hq, _ => absurd hq (by omega)
  | p + 1, h, q, hq, hs => by
    have e : foldN (onlyF P x) (-1) (p + 1) = onlyF P x p (foldN (onlyF P x) (-1) p) := rfl
    rw [e]
    unfold onlyF
    have ih := only_all x p (fun q hq => h q (by omega))
    rcases Nat.lt_or_ge q p with q1 | q1
    · have e1 := ih q q1 hs
      by_cases hp : 0 ≤ sndS P p (x : Int)
      · rw [if_pos hp]
        rcases h p (by omega) with k | k | k
        · omega
        · omega
        · omega
      · rw [if_neg hp]; exact e1
    · have : q = p := by omega
      subst this
      rw [if_pos hs]
theorem ct_isOneNote {P : Pce} {x : Nat} (hP : PcC P I) (hO : PcOK P) (hx : x ≤ 20) : Ct X (d + 1) 66 M_X3_isOneNote 66 [.ref 22, .int (nI x)] (I, J, rf0) (RI (fun y9 m => y9 = bI (oneN P x) ∧ m = (I, J, rf0))) := by
  have h4 := hO.1
  show Go _ _ _ _ _ _ [_, _, _, _, _] _ _ _
  refine g_iconst (v := -1) dX3_isOneNote_0 (by decide) ?_
  refine g_istore_n dX3_isOneNote_1 (by decide) ?_
  show Go _ _ _ _ _ _ [_, _, _, _, _] _ _ _
  refine g_iconst (v := 0) dX3_isOneNote_2 (by decide) ?_
  refine g_istore_n dX3_isOneNote_3 (by decide) ?_
  show Go _ _ _ _ _ _ [_, _, _, _, _] _ _ _
  rw [z_m1]
  refine (go_for (onlyF P x) (-1 : Int) P.1 (fun p s => (∀ q, q < p → onlyOK P x q) → Go X (d + 1) 66 M_X3_isOneNote 66 4 [.ref 22, .int (nI x), .int (zI s), .int (nI p), .null] [] (I, J, rf0) (RI (fun y9 m => y9 = bI (oneN P x) ∧ m = (I, J, rf0)))) (fun p hp kk hpass => ?_) (fun hpass => ?_)) (fun q hq => absurd hq (by omega))
  · skip
    refine g_iload_n dX3_isOneNote_4 rfl ?_
    refine g_aload_n dX3_isOneNote_5 rfl ?_
    refine t_getI dX3_isOneNote_6 fl_X3_24 rfl (by decide) rfl (by decide) ?_
    rw [hP.1]
    refine g_icmp_ge (tgt := 54) dX3_isOneNote_9 (by decide) (fun c9 => ?_) (fun c9 => ?_)
    · exact absurd (nI_lt hp (by omega)) (Int32.not_lt.mpr c9)
    · skip
      refine g_aload_n dX3_isOneNote_12 rfl ?_
      refine g_iload_n dX3_isOneNote_13 rfl ?_
      refine g_iload_n dX3_isOneNote_14 rfl ?_
      refine g_callVi dX3_isOneNote_15 ln_X3_62 ⟨_, rfl⟩ rfl (by decide) ⟨_, _, rfl⟩ rfl (Nat.le_of_ble_eq_true rfl) (Nat.le_of_ble_eq_true rfl) (ct_soundN (p := p) (x := x) hP hO (by omega) (by omega)) rfl (fun r15 m15 h15 => ?_)
      obtain ⟨rfl, rfl⟩ := h15
      refine g_istore dX3_isOneNote_18 (by decide) ?_
      show Go _ _ _ _ _ _ [_, _, _, _, _] _ _ _
      have r1 := sndS_rng P hO p (x : Int)
      have r2 := only_rng hO x p
      refine g_iload dX3_isOneNote_20 rfl ?_
      refine g_iconst (v := -1) dX3_isOneNote_22 (by decide) ?_
      refine g_icmp_eq (tgt := 39) dX3_isOneNote_23 (by decide) (fun c23 => ?_) (fun c23 => ?_)
      · skip
        refine g_iload dX3_isOneNote_39 rfl ?_
        refine g_iconst (v := -1) dX3_isOneNote_41 (by decide) ?_
        refine g_icmp_eq (tgt := 48) dX3_isOneNote_42 (by decide) (fun c42 => ?_) (fun c42 => ?_)
        · skip
          refine g_iinc dX3_isOneNote_48 rfl (by decide) ?_
          show Go _ _ _ _ _ _ [_, _, _, _, _] _ _ _
          refine g_goto (tgt := 4) dX3_isOneNote_51 (by decide) ?_
          refine g_forget 4 ?_
          show Go _ _ _ _ _ _ [_, _, _, _, _] _ _ _
          have hok : onlyOK P x p := by
            rw [z_m1] at c23
            first
              | (have q1 := (z_eq (by omega) (by omega)).mp c23
                 exact Or.inl (by omega))
              | (rw [z_m1] at c28
                 first
                   | (have q1 := (z_eq (by omega) (by omega)).mp c28
                      exact Or.inr (Or.inl (by omega)))
                   | (have q1 := (z_eq (by omega) (by omega)).mp c34
                      exact Or.inr (Or.inr q1)))
          have e9 : foldN (onlyF P x) (-1 : Int) (p + 1) = onlyF P x p (foldN (onlyF P x) (-1) p) := rfl
          rw [nI_inc]
          rw [e9] at kk
          unfold onlyF at kk
          rw [z_m1] at c42
          first
            | (have q1 := (z_eq (by omega) (by omega)).mp c42
               rw [if_neg (by omega)] at kk
               exact kk (lt_s hpass hok))
            | (have q1 := (not_congr (z_eq (by omega) (by omega))).mp c42
               rw [if_pos (by omega)] at kk
               exact kk (lt_s hpass hok))
        · skip
          refine g_iload dX3_isOneNote_45 rfl ?_
          refine g_istore_n dX3_isOneNote_47 (by decide) ?_
          show Go _ _ _ _ _ _ [_, _, _, _, _] _ _ _
          refine g_iinc dX3_isOneNote_48 rfl (by decide) ?_
          show Go _ _ _ _ _ _ [_, _, _, _, _] _ _ _
          refine g_goto (tgt := 4) dX3_isOneNote_51 (by decide) ?_
          refine g_forget 4 ?_
          show Go _ _ _ _ _ _ [_, _, _, _, _] _ _ _
          have hok : onlyOK P x p := by
            rw [z_m1] at c23
            first
              | (have q1 := (z_eq (by omega) (by omega)).mp c23
                 exact Or.inl (by omega))
              | (rw [z_m1] at c28
                 first
                   | (have q1 := (z_eq (by omega) (by omega)).mp c28
                      exact Or.inr (Or.inl (by omega)))
                   | (have q1 := (z_eq (by omega) (by omega)).mp c34
                      exact Or.inr (Or.inr q1)))
          have e9 : foldN (onlyF P x) (-1 : Int) (p + 1) = onlyF P x p (foldN (onlyF P x) (-1) p) := rfl
          rw [nI_inc]
          rw [e9] at kk
          unfold onlyF at kk
          rw [z_m1] at c42
          first
            | (have q1 := (z_eq (by omega) (by omega)).mp c42
               rw [if_neg (by omega)] at kk
               exact kk (lt_s hpass hok))
            | (have q1 := (not_congr (z_eq (by omega) (by omega))).mp c42
               rw [if_pos (by omega)] at kk
               exact kk (lt_s hpass hok))
      · skip
        refine g_iload_n dX3_isOneNote_26 rfl ?_
        refine g_iconst (v := -1) dX3_isOneNote_27 (by decide) ?_
        refine g_icmp_eq (tgt := 39) dX3_isOneNote_28 (by decide) (fun c28 => ?_) (fun c28 => ?_)
        · skip
          refine g_iload dX3_isOneNote_39 rfl ?_
          refine g_iconst (v := -1) dX3_isOneNote_41 (by decide) ?_
          refine g_icmp_eq (tgt := 48) dX3_isOneNote_42 (by decide) (fun c42 => ?_) (fun c42 => ?_)
          · skip
            refine g_iinc dX3_isOneNote_48 rfl (by decide) ?_
            show Go _ _ _ _ _ _ [_, _, _, _, _] _ _ _
            refine g_goto (tgt := 4) dX3_isOneNote_51 (by decide) ?_
            refine g_forget 4 ?_
            show Go _ _ _ _ _ _ [_, _, _, _, _] _ _ _
            have hok : onlyOK P x p := by
              rw [z_m1] at c23
              first
                | (have q1 := (z_eq (by omega) (by omega)).mp c23
                   exact Or.inl (by omega))
                | (rw [z_m1] at c28
                   first
                     | (have q1 := (z_eq (by omega) (by omega)).mp c28
                        exact Or.inr (Or.inl (by omega)))
                     | (have q1 := (z_eq (by omega) (by omega)).mp c34
                        exact Or.inr (Or.inr q1)))
            have e9 : foldN (onlyF P x) (-1 : Int) (p + 1) = onlyF P x p (foldN (onlyF P x) (-1) p) := rfl
            rw [nI_inc]
            rw [e9] at kk
            unfold onlyF at kk
            rw [z_m1] at c42
            first
              | (have q1 := (z_eq (by omega) (by omega)).mp c42
                 rw [if_neg (by omega)] at kk
                 exact kk (lt_s hpass hok))
              | (have q1 := (not_congr (z_eq (by omega) (by omega))).mp c42
                 rw [if_pos (by omega)] at kk
                 exact kk (lt_s hpass hok))
          · skip
            refine g_iload dX3_isOneNote_45 rfl ?_
            refine g_istore_n dX3_isOneNote_47 (by decide) ?_
            show Go _ _ _ _ _ _ [_, _, _, _, _] _ _ _
            refine g_iinc dX3_isOneNote_48 rfl (by decide) ?_
            show Go _ _ _ _ _ _ [_, _, _, _, _] _ _ _
            refine g_goto (tgt := 4) dX3_isOneNote_51 (by decide) ?_
            refine g_forget 4 ?_
            show Go _ _ _ _ _ _ [_, _, _, _, _] _ _ _
            have hok : onlyOK P x p := by
              rw [z_m1] at c23
              first
                | (have q1 := (z_eq (by omega) (by omega)).mp c23
                   exact Or.inl (by omega))
                | (rw [z_m1] at c28
                   first
                     | (have q1 := (z_eq (by omega) (by omega)).mp c28
                        exact Or.inr (Or.inl (by omega)))
                     | (have q1 := (z_eq (by omega) (by omega)).mp c34
                        exact Or.inr (Or.inr q1)))
            have e9 : foldN (onlyF P x) (-1 : Int) (p + 1) = onlyF P x p (foldN (onlyF P x) (-1) p) := rfl
            rw [nI_inc]
            rw [e9] at kk
            unfold onlyF at kk
            rw [z_m1] at c42
            first
              | (have q1 := (z_eq (by omega) (by omega)).mp c42
                 rw [if_neg (by omega)] at kk
                 exact kk (lt_s hpass hok))
              | (have q1 := (not_congr (z_eq (by omega) (by omega))).mp c42
                 rw [if_pos (by omega)] at kk
                 exact kk (lt_s hpass hok))
        · skip
          refine g_iload dX3_isOneNote_31 rfl ?_
          refine g_iload_n dX3_isOneNote_33 rfl ?_
          refine g_icmp_eq (tgt := 39) dX3_isOneNote_34 (by decide) (fun c34 => ?_) (fun c34 => ?_)
          · skip
            refine g_iload dX3_isOneNote_39 rfl ?_
            refine g_iconst (v := -1) dX3_isOneNote_41 (by decide) ?_
            refine g_icmp_eq (tgt := 48) dX3_isOneNote_42 (by decide) (fun c42 => ?_) (fun c42 => ?_)
            · skip
              refine g_iinc dX3_isOneNote_48 rfl (by decide) ?_
              show Go _ _ _ _ _ _ [_, _, _, _, _] _ _ _
              refine g_goto (tgt := 4) dX3_isOneNote_51 (by decide) ?_
              refine g_forget 4 ?_
              show Go _ _ _ _ _ _ [_, _, _, _, _] _ _ _
              have hok : onlyOK P x p := by
                rw [z_m1] at c23
                first
                  | (have q1 := (z_eq (by omega) (by omega)).mp c23
                     exact Or.inl (by omega))
                  | (rw [z_m1] at c28
                     first
                       | (have q1 := (z_eq (by omega) (by omega)).mp c28
                          exact Or.inr (Or.inl (by omega)))
                       | (have q1 := (z_eq (by omega) (by omega)).mp c34
                          exact Or.inr (Or.inr q1)))
              have e9 : foldN (onlyF P x) (-1 : Int) (p + 1) = onlyF P x p (foldN (onlyF P x) (-1) p) := rfl
              rw [nI_inc]
              rw [e9] at kk
              unfold onlyF at kk
              rw [z_m1] at c42
              first
                | (have q1 := (z_eq (by omega) (by omega)).mp c42
                   rw [if_neg (by omega)] at kk
                   exact kk (lt_s hpass hok))
                | (have q1 := (not_congr (z_eq (by omega) (by omega))).mp c42
                   rw [if_pos (by omega)] at kk
                   exact kk (lt_s hpass hok))
            · skip
              refine g_iload dX3_isOneNote_45 rfl ?_
              refine g_istore_n dX3_isOneNote_47 (by decide) ?_
              show Go _ _ _ _ _ _ [_, _, _, _, _] _ _ _
              refine g_iinc dX3_isOneNote_48 rfl (by decide) ?_
              show Go _ _ _ _ _ _ [_, _, _, _, _] _ _ _
              refine g_goto (tgt := 4) dX3_isOneNote_51 (by decide) ?_
              refine g_forget 4 ?_
              show Go _ _ _ _ _ _ [_, _, _, _, _] _ _ _
              have hok : onlyOK P x p := by
                rw [z_m1] at c23
                first
                  | (have q1 := (z_eq (by omega) (by omega)).mp c23
                     exact Or.inl (by omega))
                  | (rw [z_m1] at c28
                     first
                       | (have q1 := (z_eq (by omega) (by omega)).mp c28
                          exact Or.inr (Or.inl (by omega)))
                       | (have q1 := (z_eq (by omega) (by omega)).mp c34
                          exact Or.inr (Or.inr q1)))
              have e9 : foldN (onlyF P x) (-1 : Int) (p + 1) = onlyF P x p (foldN (onlyF P x) (-1) p) := rfl
              rw [nI_inc]
              rw [e9] at kk
              unfold onlyF at kk
              rw [z_m1] at c42
              first
                | (have q1 := (z_eq (by omega) (by omega)).mp c42
                   rw [if_neg (by omega)] at kk
                   exact kk (lt_s hpass hok))
                | (have q1 := (not_congr (z_eq (by omega) (by omega))).mp c42
                   rw [if_pos (by omega)] at kk
                   exact kk (lt_s hpass hok))
          · skip
            refine g_iconst (v := 0) dX3_isOneNote_37 (by decide) ?_
            skip
            refine g_iret dX3_isOneNote_38 (fun ty h => by cases h; rfl) ?_
            refine ⟨?_, rfl⟩
            rw [z_m1] at c23 c28
            have q1 := (not_congr (z_eq (by omega) (by omega))).mp c23
            have q2 := (not_congr (z_eq (by omega) (by omega))).mp c28
            have q3 := (not_congr (z_eq (by omega) (by omega))).mp c34
            obtain ⟨q, hq, e⟩ := only_ex (P := P) x p (by omega)
            have : oneN P x = false := decide_eq_false (fun h => q3 (by rw [← e]; exact h p hp q (by omega) (by omega) (by omega)))
            rw [this]
            rfl
  · skip
    refine g_iload_n dX3_isOneNote_4 rfl ?_
    refine g_aload_n dX3_isOneNote_5 rfl ?_
    refine t_getI dX3_isOneNote_6 fl_X3_24 rfl (by decide) rfl (by decide) ?_
    rw [hP.1]
    refine g_icmp_ge (tgt := 54) dX3_isOneNote_9 (by decide) (fun c9 => ?_) (fun c9 => ?_)
    · skip
      refine g_iconst (v := 1) dX3_isOneNote_54 (by decide) ?_
      refine g_iret dX3_isOneNote_55 (fun ty h => by cases h; rfl) ?_
      refine ⟨?_, rfl⟩
      have : oneN P x = true := decide_eq_true (fun a ha b hb h1 h2 => (only_all x P.1 hpass a ha h1).trans (only_all x P.1 hpass b hb h2).symm)
      rw [this]
      rfl
    · exact absurd (Int32.le_refl _) c9
def cntTie (P : Pce) (x : Nat) : Nat := cntP (fun p => decide (0 ≤ sndS P p (x : Int) ∧ sndS P p (x : Int) = sndS P p ((x : Int) - 1))) P.1
theorem ct_countTied {P : Pce} {x : Nat} (hP : PcC P I) (hO : PcOK P) (hx : x ≤ 20) : Ct X (d + 1) 66 M_X3_countTied 66 [.ref 22, .int (nI x)] (I, J, rf0) (RI (fun y9 m => y9 = nI (cntTie P x) ∧ m = (I, J, rf0))) := by
  have h4 := hO.1
  show Go _ _ _ _ _ _ [_, _, _, _, _] _ _ _
  refine g_iconst (v := 0) dX3_countTied_0 (by decide) ?_
  refine g_istore_n dX3_countTied_1 (by decide) ?_
  show Go _ _ _ _ _ _ [_, _, _, _, _] _ _ _
  refine g_iconst (v := 0) dX3_countTied_2 (by decide) ?_
  refine g_istore_n dX3_countTied_3 (by decide) ?_
  show Go _ _ _ _ _ _ [_, _, _, _, _] _ _ _
  refine go_for (fun (p : Nat) (c : Nat) => if decide (0 ≤ sndS P p (x : Int) ∧ sndS P p (x : Int) = sndS P p ((x : Int) - 1)) then c + 1 else c) 0 P.1 (fun p c => Go X (d + 1) 66 M_X3_countTied 66 4 [.ref 22, .int (nI x), .int (nI c), .int (nI p), .null] [] (I, J, rf0) (RI (fun y9 m => y9 = nI (cntTie P x) ∧ m = (I, J, rf0)))) (fun p hp kk => ?_) ?_
  · skip
    refine g_iload_n dX3_countTied_4 rfl ?_
    refine g_aload_n dX3_countTied_5 rfl ?_
    refine t_getI dX3_countTied_6 fl_X3_24 rfl (by decide) rfl (by decide) ?_
    rw [hP.1]
    refine g_icmp_ge (tgt := 48) dX3_countTied_9 (by decide) (fun c9 => ?_) (fun c9 => ?_)
    · exact absurd (nI_lt hp (by omega)) (Int32.not_lt.mpr c9)
    · skip
      refine g_aload_n dX3_countTied_12 rfl ?_
      refine g_iload_n dX3_countTied_13 rfl ?_
      refine g_iload_n dX3_countTied_14 rfl ?_
      refine g_callVi dX3_countTied_15 ln_X3_62 ⟨_, rfl⟩ rfl (by decide) ⟨_, _, rfl⟩ rfl (Nat.le_of_ble_eq_true rfl) (Nat.le_of_ble_eq_true rfl) (ct_soundN (p := p) (x := x) hP hO (by omega) (by omega)) rfl (fun r15 m15 h15 => ?_)
      obtain ⟨rfl, rfl⟩ := h15
      refine g_istore dX3_countTied_18 (by decide) ?_
      show Go _ _ _ _ _ _ [_, _, _, _, _] _ _ _
      have r1 := sndS_rng P hO p (x : Int)
      have r2 := sndS_rng P hO p ((x : Int) - 1)
      refine g_iload dX3_countTied_20 rfl ?_
      refine g_iconst (v := -1) dX3_countTied_22 (by decide) ?_
      refine g_icmp_eq (tgt := 42) dX3_countTied_23 (by decide) (fun c23 => ?_) (fun c23 => ?_)
      · skip
        refine g_iinc dX3_countTied_42 rfl (by decide) ?_
        show Go _ _ _ _ _ _ [_, _, _, _, _] _ _ _
        refine g_goto (tgt := 4) dX3_countTied_45 (by decide) ?_
        refine g_forget 4 ?_
        show Go _ _ _ _ _ _ [_, _, _, _, _] _ _ _
        have e9 : foldN (fun (p : Nat) (c : Nat) => if decide (0 ≤ sndS P p (x : Int) ∧ sndS P p (x : Int) = sndS P p ((x : Int) - 1)) then c + 1 else c) 0 (p + 1) = if decide (0 ≤ sndS P p (x : Int) ∧ sndS P p (x : Int) = sndS P p ((x : Int) - 1)) then foldN (fun (p : Nat) (c : Nat) => if decide (0 ≤ sndS P p (x : Int) ∧ sndS P p (x : Int) = sndS P p ((x : Int) - 1)) then c + 1 else c) 0 p + 1 else foldN (fun (p : Nat) (c : Nat) => if decide (0 ≤ sndS P p (x : Int) ∧ sndS P p (x : Int) = sndS P p ((x : Int) - 1)) then c + 1 else c) 0 p := rfl
        rw [e9] at kk
        rw [z_m1] at c23
        first
          | (have q1 := (z_eq (by omega) (by omega)).mp c23
             rw [decide_eq_false (by omega)] at kk
             rw [nI_inc]
             exact kk)
          | (have q1 := (not_congr (z_eq (by omega) (by omega))).mp c23
             first
               | (have q2 := (not_congr (z_eq (by omega) (by omega))).mp c36
                  rw [decide_eq_false (by omega)] at kk
                  rw [nI_inc]
                  exact kk)
               | (have q2 := (z_eq (by omega) (by omega)).mp c36
                  rw [decide_eq_true (by omega)] at kk
                  rw [nI_inc, nI_inc]
                  exact kk))
      · skip
        refine g_iload dX3_countTied_26 rfl ?_
        refine g_aload_n dX3_countTied_28 rfl ?_
        refine g_iload_n dX3_countTied_29 rfl ?_
        refine g_iload_n dX3_countTied_30 rfl ?_
        refine g_iconst (v := 1) dX3_countTied_31 (by decide) ?_
        refine g_isub dX3_countTied_32 ?_
        rw [show nI x - 1 = zI ((x : Int) - 1) by rw [nI_z, show (1 : Int32) = zI 1 from rfl, z_sub]]
        refine g_callVi dX3_countTied_33 ln_X3_62 ⟨_, rfl⟩ rfl (by decide) ⟨_, _, rfl⟩ rfl (Nat.le_of_ble_eq_true rfl) (Nat.le_of_ble_eq_true rfl) (ct_soundOf (p := p) (z := (x : Int) - 1) hP hO (by omega) (by omega)) rfl (fun r33 m33 h33 => ?_)
        obtain ⟨rfl, rfl⟩ := h33
        refine g_icmp_ne (tgt := 42) dX3_countTied_36 (by decide) (fun c36 => ?_) (fun c36 => ?_)
        · skip
          refine g_iinc dX3_countTied_42 rfl (by decide) ?_
          show Go _ _ _ _ _ _ [_, _, _, _, _] _ _ _
          refine g_goto (tgt := 4) dX3_countTied_45 (by decide) ?_
          refine g_forget 4 ?_
          show Go _ _ _ _ _ _ [_, _, _, _, _] _ _ _
          have e9 : foldN (fun (p : Nat) (c : Nat) => if decide (0 ≤ sndS P p (x : Int) ∧ sndS P p (x : Int) = sndS P p ((x : Int) - 1)) then c + 1 else c) 0 (p + 1) = if decide (0 ≤ sndS P p (x : Int) ∧ sndS P p (x : Int) = sndS P p ((x : Int) - 1)) then foldN (fun (p : Nat) (c : Nat) => if decide (0 ≤ sndS P p (x : Int) ∧ sndS P p (x : Int) = sndS P p ((x : Int) - 1)) then c + 1 else c) 0 p + 1 else foldN (fun (p : Nat) (c : Nat) => if decide (0 ≤ sndS P p (x : Int) ∧ sndS P p (x : Int) = sndS P p ((x : Int) - 1)) then c + 1 else c) 0 p := rfl
          rw [e9] at kk
          rw [z_m1] at c23
          first
            | (have q1 := (z_eq (by omega) (by omega)).mp c23
               rw [decide_eq_false (by omega)] at kk
               rw [nI_inc]
               exact kk)
            | (have q1 := (not_congr (z_eq (by omega) (by omega))).mp c23
               first
                 | (have q2 := (not_congr (z_eq (by omega) (by omega))).mp c36
                    rw [decide_eq_false (by omega)] at kk
                    rw [nI_inc]
                    exact kk)
                 | (have q2 := (z_eq (by omega) (by omega)).mp c36
                    rw [decide_eq_true (by omega)] at kk
                    rw [nI_inc, nI_inc]
                    exact kk))
        · skip
          refine g_iinc dX3_countTied_39 rfl (by decide) ?_
          show Go _ _ _ _ _ _ [_, _, _, _, _] _ _ _
          refine g_iinc dX3_countTied_42 rfl (by decide) ?_
          show Go _ _ _ _ _ _ [_, _, _, _, _] _ _ _
          refine g_goto (tgt := 4) dX3_countTied_45 (by decide) ?_
          refine g_forget 4 ?_
          show Go _ _ _ _ _ _ [_, _, _, _, _] _ _ _
          have e9 : foldN (fun (p : Nat) (c : Nat) => if decide (0 ≤ sndS P p (x : Int) ∧ sndS P p (x : Int) = sndS P p ((x : Int) - 1)) then c + 1 else c) 0 (p + 1) = if decide (0 ≤ sndS P p (x : Int) ∧ sndS P p (x : Int) = sndS P p ((x : Int) - 1)) then foldN (fun (p : Nat) (c : Nat) => if decide (0 ≤ sndS P p (x : Int) ∧ sndS P p (x : Int) = sndS P p ((x : Int) - 1)) then c + 1 else c) 0 p + 1 else foldN (fun (p : Nat) (c : Nat) => if decide (0 ≤ sndS P p (x : Int) ∧ sndS P p (x : Int) = sndS P p ((x : Int) - 1)) then c + 1 else c) 0 p := rfl
          rw [e9] at kk
          rw [z_m1] at c23
          first
            | (have q1 := (z_eq (by omega) (by omega)).mp c23
               rw [decide_eq_false (by omega)] at kk
               rw [nI_inc]
               exact kk)
            | (have q1 := (not_congr (z_eq (by omega) (by omega))).mp c23
               first
                 | (have q2 := (not_congr (z_eq (by omega) (by omega))).mp c36
                    rw [decide_eq_false (by omega)] at kk
                    rw [nI_inc]
                    exact kk)
                 | (have q2 := (z_eq (by omega) (by omega)).mp c36
                    rw [decide_eq_true (by omega)] at kk
                    rw [nI_inc, nI_inc]
                    exact kk))
  · skip
    refine g_iload_n dX3_countTied_4 rfl ?_
    refine g_aload_n dX3_countTied_5 rfl ?_
    refine t_getI dX3_countTied_6 fl_X3_24 rfl (by decide) rfl (by decide) ?_
    rw [hP.1]
    refine g_icmp_ge (tgt := 48) dX3_countTied_9 (by decide) (fun c9 => ?_) (fun c9 => ?_)
    · skip
      refine g_iload_n dX3_countTied_48 rfl ?_
      refine g_iret dX3_countTied_49 (fun ty h => by cases h; rfl) ?_
      exact ⟨rfl, rfl⟩
    · exact absurd (Int32.le_refl _) c9
def letB (P : Pce) (l : Int32) (x : Nat) : Bool := isK (P.2.2.1 x) 3 && decide (nI (cntK P 3 x) = l)
def letP (P : Pce) (l : Int32) : Option Nat := fstN (letB P l) P.2.1
def oI (o : Option Nat) : Int32 := match o with
  | none => -9
  | some n => nI n
theorem ct_placeOfLetter {P : Pce} {l : Int32} (hP : PcC P I) (hO : PcOK P) : Ct X (d + 2) 66 M_X3_placeOfLetter 66 [.ref 22, .int l] (I, J, rf0) (RI (fun y9 m => y9 = oI (letP P l) ∧ m = (I, J, rf0))) := by
  have h14 := hO.2.1
  show Go _ _ _ _ _ _ [_, _, _, _] _ _ _
  refine g_iconst (v := 0) dX3_placeOfLetter_0 (by decide) ?_
  refine g_istore_n dX3_placeOfLetter_1 (by decide) ?_
  show Go _ _ _ _ _ _ [_, _, _, _] _ _ _
  refine g_iconst (v := 0) dX3_placeOfLetter_2 (by decide) ?_
  refine g_istore_n dX3_placeOfLetter_3 (by decide) ?_
  show Go _ _ _ _ _ _ [_, _, _, _] _ _ _
  refine (go_for (fun (y : Nat) (c : Nat) => if isK (P.2.2.1 y) 3 then c + 1 else c) 0 P.2.1 (fun y c => (∀ q, q < y → letB P l q = false) → Go X (d + 2) 66 M_X3_placeOfLetter 66 4 [.ref 22, .int l, .int (nI c), .int (nI y)] [] (I, J, rf0) (RI (fun y9 m => y9 = oI (letP P l) ∧ m = (I, J, rf0)))) (fun y hy kk hpass => ?_) (fun hpass => ?_)) (fun q hq => absurd hq (by omega))
  · skip
    refine g_iload_n dX3_placeOfLetter_4 rfl ?_
    refine g_aload_n dX3_placeOfLetter_5 rfl ?_
    refine t_getI dX3_placeOfLetter_6 fl_X3_28 rfl (by decide) rfl (by decide) ?_
    rw [hP.2.1]
    refine g_icmp_ge (tgt := 40) dX3_placeOfLetter_9 (by decide) (fun c9 => ?_) (fun c9 => ?_)
    · exact absurd (nI_lt hy (by omega)) (Int32.not_lt.mpr c9)
    · skip
      refine g_aload_n dX3_placeOfLetter_12 rfl ?_
      refine g_iload_n dX3_placeOfLetter_13 rfl ?_
      refine g_iconst (v := 3) dX3_placeOfLetter_14 (by decide) ?_
      refine g_callVi dX3_placeOfLetter_15 ln_X3_90 ⟨_, rfl⟩ rfl (by decide) ⟨_, _, rfl⟩ rfl (Nat.le_of_ble_eq_true rfl) (Nat.le_of_ble_eq_true rfl) (ct_isOf (w := 3) hP hO hy (by decide)) rfl (fun r15 m15 h15 => ?_)
      obtain ⟨rfl, rfl⟩ := h15
      refine g_if_ne (tgt := 24) dX3_placeOfLetter_18 (by decide) (fun c18 => ?_) (fun c18 => ?_)
      · skip
        refine g_iload_n dX3_placeOfLetter_24 rfl ?_
        refine g_iload_n dX3_placeOfLetter_25 rfl ?_
        refine g_icmp_ne (tgt := 31) dX3_placeOfLetter_26 (by decide) (fun c26 => ?_) (fun c26 => ?_)
        · skip
          refine g_iinc dX3_placeOfLetter_31 rfl (by decide) ?_
          show Go _ _ _ _ _ _ [_, _, _, _] _ _ _
          refine g_iinc dX3_placeOfLetter_34 rfl (by decide) ?_
          show Go _ _ _ _ _ _ [_, _, _, _] _ _ _
          refine g_goto (tgt := 4) dX3_placeOfLetter_37 (by decide) ?_
          have e9 : foldN (fun (y : Nat) (c : Nat) => if isK (P.2.2.1 y) 3 then c + 1 else c) 0 (y + 1) = if isK (P.2.2.1 y) 3 then foldN (fun (y : Nat) (c : Nat) => if isK (P.2.2.1 y) 3 then c + 1 else c) 0 y + 1 else foldN (fun (y : Nat) (c : Nat) => if isK (P.2.2.1 y) 3 then c + 1 else c) 0 y := rfl
          rw [e9] at kk
          first
            | (rw [bI_eq c18] at kk
               rw [nI_inc]
               exact kk (lt_s hpass (by unfold letB; rw [bI_eq c18]; rfl)))
            | (rw [bI_ne c18] at kk
               rw [nI_inc, nI_inc]
               exact kk (lt_s hpass (by unfold letB; rw [decide_eq_false (show ¬ nI (cntK P 3 y) = l from c26), Bool.and_false])))
        · skip
          refine g_iload_n dX3_placeOfLetter_29 rfl ?_
          refine g_iret dX3_placeOfLetter_30 (fun ty h => by cases h; rfl) ?_
          refine ⟨?_, rfl⟩
          rw [show letP P l = some y from fstN_some (by unfold letB; rw [bI_ne c18, decide_eq_true (show nI (cntK P 3 y) = l from c26)]; rfl) hpass hy]
          rfl
      · skip
        refine g_goto (tgt := 34) dX3_placeOfLetter_21 (by decide) ?_
        refine g_iinc dX3_placeOfLetter_34 rfl (by decide) ?_
        show Go _ _ _ _ _ _ [_, _, _, _] _ _ _
        refine g_goto (tgt := 4) dX3_placeOfLetter_37 (by decide) ?_
        have e9 : foldN (fun (y : Nat) (c : Nat) => if isK (P.2.2.1 y) 3 then c + 1 else c) 0 (y + 1) = if isK (P.2.2.1 y) 3 then foldN (fun (y : Nat) (c : Nat) => if isK (P.2.2.1 y) 3 then c + 1 else c) 0 y + 1 else foldN (fun (y : Nat) (c : Nat) => if isK (P.2.2.1 y) 3 then c + 1 else c) 0 y := rfl
        rw [e9] at kk
        first
          | (rw [bI_eq c18] at kk
             rw [nI_inc]
             exact kk (lt_s hpass (by unfold letB; rw [bI_eq c18]; rfl)))
          | (rw [bI_ne c18] at kk
             rw [nI_inc, nI_inc]
             exact kk (lt_s hpass (by unfold letB; rw [decide_eq_false (show ¬ nI (cntK P 3 y) = l from c26), Bool.and_false])))
  · skip
    refine g_iload_n dX3_placeOfLetter_4 rfl ?_
    refine g_aload_n dX3_placeOfLetter_5 rfl ?_
    refine t_getI dX3_placeOfLetter_6 fl_X3_28 rfl (by decide) rfl (by decide) ?_
    rw [hP.2.1]
    refine g_icmp_ge (tgt := 40) dX3_placeOfLetter_9 (by decide) (fun c9 => ?_) (fun c9 => ?_)
    · skip
      refine g_bipush (v := -9) dX3_placeOfLetter_40 (by decide) ?_
      refine g_iret dX3_placeOfLetter_42 (fun ty h => by cases h; rfl) ?_
      refine ⟨?_, rfl⟩
      rw [show letP P l = none from fstN_none hpass]
      rfl
    · exact absurd (Int32.le_refl _) c9
def lastL (P : Pce) : Nat → Nat
  | 0 => 0
  | y + 1 => if isK (P.2.2.1 (y + 1)) 3 then y + 1 else lastL P y
theorem ct_lastLetterTill {P : Pce} {x : Nat} (hP : PcC P I) (hO : PcOK P) (hx : x < P.2.1) : Ct X (d + 2) 66 M_X3_lastLetterTill 66 [.ref 22, .int (nI x)] (I, J, rf0) (RI (fun y9 m => y9 = nI (lastL P x) ∧ m = (I, J, rf0))) := by
  have h14 := hO.2.1
  show Go _ _ _ _ _ _ [_, _, _] _ _ _
  refine g_iload_n dX3_lastLetterTill_0 rfl ?_
  refine g_istore_n dX3_lastLetterTill_1 (by decide) ?_
  show Go _ _ _ _ _ _ [_, _, _] _ _ _
  have key : ∀ y, y ≤ x → lastL P x = lastL P y → Go X (d + 2) 66 M_X3_lastLetterTill 66 2 [.ref 22, .int (nI x), .int (nI y)] [] (I, J, rf0) (RI (fun y9 m => y9 = nI (lastL P x) ∧ m = (I, J, rf0))) := by
    intro y
    induction y with
    | zero =>
      intro _ he
      refine g_iload_n dX3_lastLetterTill_2 rfl ?_
      refine g_if_le (tgt := 23) dX3_lastLetterTill_3 (by decide) (fun c3 => ?_) (fun c3 => ?_)
      · refine g_iconst (v := 0) dX3_lastLetterTill_23 (by decide) ?_
        refine g_iret dX3_lastLetterTill_24 (fun ty h => by cases h; rfl) ?_
        exact ⟨by rw [he]; rfl, rfl⟩
      · exact absurd (Int32.le_refl _) c3
    | succ y ih =>
      intro hy he
      refine g_iload_n dX3_lastLetterTill_2 rfl ?_
      refine g_if_le (tgt := 23) dX3_lastLetterTill_3 (by decide) (fun c3 => ?_) (fun c3 => ?_)
      · exact absurd (nI_lt (show 0 < y + 1 by omega) (by omega)) (Int32.not_lt.mpr c3)
      · refine g_aload_n dX3_lastLetterTill_6 rfl ?_
        refine g_iload_n dX3_lastLetterTill_7 rfl ?_
        refine g_iconst (v := 3) dX3_lastLetterTill_8 (by decide) ?_
        refine g_callVi dX3_lastLetterTill_9 ln_X3_90 ⟨_, rfl⟩ rfl (by decide) ⟨_, _, rfl⟩ rfl (Nat.le_of_ble_eq_true rfl) (Nat.le_of_ble_eq_true rfl) (ct_isOf (x := y + 1) (w := 3) hP hO (by omega) (by decide)) rfl (fun r9 m9 h9 => ?_)
        obtain ⟨rfl, rfl⟩ := h9
        have e9 : lastL P (y + 1) = if isK (P.2.2.1 (y + 1)) 3 then y + 1 else lastL P y := rfl
        refine g_if_eq (tgt := 17) dX3_lastLetterTill_12 (by decide) (fun c12 => ?_) (fun c12 => ?_)
        · refine g_iinc dX3_lastLetterTill_17 rfl (by decide) ?_
          show Go _ _ _ _ _ _ [_, _, _] _ _ _
          refine g_goto (tgt := 2) dX3_lastLetterTill_20 (by decide) ?_
          rw [show nI (y + 1) + Int32.ofInt (-1) = nI y from pk_m1 y]
          exact ih (by omega) (by rw [he, e9, bI_eq c12]; rfl)
        · refine g_iload_n dX3_lastLetterTill_15 rfl ?_
          refine g_iret dX3_lastLetterTill_16 (fun ty h => by cases h; rfl) ?_
          exact ⟨by rw [he, e9, bI_ne c12]; rfl, rfl⟩
  exact key x (Nat.le_refl _) rfl
def popN (n : Nat) : Nat := cntP (fun i => n.testBit i) 14
def bcI (x : Int32) : Int32 :=
  let a := x - ((x.toUInt32 >>> ((1 : Int32).toUInt32 &&& Int32.toUInt32 31)).toInt32 &&& 1431655765)
  let b := (a &&& 858993459) + ((a.toUInt32 >>> ((2 : Int32).toUInt32 &&& Int32.toUInt32 31)).toInt32 &&& 858993459)
  let c := (b + (b.toUInt32 >>> ((4 : Int32).toUInt32 &&& Int32.toUInt32 31)).toInt32) &&& 252645135
  let e := c + (c.toUInt32 >>> ((8 : Int32).toUInt32 &&& Int32.toUInt32 31)).toInt32
  let g := e + (e.toUInt32 >>> ((16 : Int32).toUInt32 &&& Int32.toUInt32 31)).toInt32
  g &&& 63
theorem bcI_64 : ∀ n, n < 64 → bcI (nI n) = nI (popN n) := by decide +kernel
theorem prIn_lt (c : Nat → Bool) (a k : Nat) (s : Nat × Nat) (h : s.1 < 2 ^ s.2) : ∀ n, (prIn c a n s).1 < 2 ^ (prIn c a n s).2
  | 0 => h
  | n + 1 => by
    have ih := prIn_lt c a k s h n
    show (if c (a + 1 + n) then (prIn c a n s).1 ||| 2 ^ (prIn c a n s).2 else (prIn c a n s).1) < 2 ^ ((prIn c a n s).2 + 1)
    have h2 : 2 ^ (prIn c a n s).2 < 2 ^ ((prIn c a n s).2 + 1) := Nat.pow_lt_pow_right (by decide) (by omega)
    split
    · exact Nat.or_lt_two_pow (by omega) h2
    · omega
theorem prs_lt (np : Nat) (c : Nat → Nat → Bool) : ∀ a, (foldN (fun a s => prIn (c a) a (np - (a + 1)) s) (0, 0) a).1 < 2 ^ (foldN (fun a s => prIn (c a) a (np - (a + 1)) s) (0, 0) a).2
  | 0 => show (0 : Nat) < 2 ^ 0 by decide
  | a + 1 => prIn_lt (c a) a 0 _ (prs_lt np c a) _
theorem prs_cnt (c : Nat → Nat → Bool) : ∀ np, np ≤ 4 → (prs np c).2 ≤ 6 := by
  intro np h
  unfold prs
  rcases (show np = 0 ∨ np = 1 ∨ np = 2 ∨ np = 3 ∨ np = 4 by omega) with rfl | rfl | rfl | rfl | rfl <;> simp [foldN, prIn_snd]
theorem hrK_lt {P : Pce} (hO : PcOK P) (k : Nat) (o : Nat → Int) (x : Nat) : hrK P k o x < 64 := by
  have h1 := prs_lt P.1 (cB P k o x) P.1
  have h2 := prs_cnt (cB P k o x) P.1 hO.1
  have h3 : 2 ^ (prs P.1 (cB P k o x)).2 ≤ 2 ^ 6 := Nat.pow_le_pow_right (by decide) h2
  exact Nat.lt_of_lt_of_le h1 h3
theorem ct_bitCount {n : Nat} (hn : n < 64) : Ct X d 66 M_J6_bitCount_0f7a4 66 [.int (nI n)] (I, J, rf0) (RI (fun y9 m => y9 = nI (popN n) ∧ m = (I, J, rf0))) := by
  show Go _ _ _ _ _ _ [_] _ _ _
  refine g_iload_n dJ6_bitCount_0f7a4_0 rfl ?_
  refine g_iload_n dJ6_bitCount_0f7a4_1 rfl ?_
  refine g_iconst (v := 1) dJ6_bitCount_0f7a4_2 (by decide) ?_
  refine g_iushr dJ6_bitCount_0f7a4_3 ?_
  refine g_ldcw dJ6_bitCount_0f7a4_4 tb_600 ?_
  refine g_iand dJ6_bitCount_0f7a4_7 ?_
  refine g_isub dJ6_bitCount_0f7a4_8 ?_
  refine g_istore_n dJ6_bitCount_0f7a4_9 (by decide) ?_
  show Go _ _ _ _ _ _ [_] _ _ _
  refine g_iload_n dJ6_bitCount_0f7a4_10 rfl ?_
  refine g_ldcw dJ6_bitCount_0f7a4_11 tb_601 ?_
  refine g_iand dJ6_bitCount_0f7a4_14 ?_
  refine g_iload_n dJ6_bitCount_0f7a4_15 rfl ?_
  refine g_iconst (v := 2) dJ6_bitCount_0f7a4_16 (by decide) ?_
  refine g_iushr dJ6_bitCount_0f7a4_17 ?_
  refine g_ldcw dJ6_bitCount_0f7a4_18 tb_601 ?_
  refine g_iand dJ6_bitCount_0f7a4_21 ?_
  refine g_iadd dJ6_bitCount_0f7a4_22 ?_
  refine g_istore_n dJ6_bitCount_0f7a4_23 (by decide) ?_
  show Go _ _ _ _ _ _ [_] _ _ _
  refine g_iload_n dJ6_bitCount_0f7a4_24 rfl ?_
  refine g_iload_n dJ6_bitCount_0f7a4_25 rfl ?_
  refine g_iconst (v := 4) dJ6_bitCount_0f7a4_26 (by decide) ?_
  refine g_iushr dJ6_bitCount_0f7a4_27 ?_
  refine g_iadd dJ6_bitCount_0f7a4_28 ?_
  refine g_ldcw dJ6_bitCount_0f7a4_29 tb_602 ?_
  refine g_iand dJ6_bitCount_0f7a4_32 ?_
  refine g_istore_n dJ6_bitCount_0f7a4_33 (by decide) ?_
  show Go _ _ _ _ _ _ [_] _ _ _
  refine g_iload_n dJ6_bitCount_0f7a4_34 rfl ?_
  refine g_iload_n dJ6_bitCount_0f7a4_35 rfl ?_
  refine g_bipush (v := 8) dJ6_bitCount_0f7a4_36 (by decide) ?_
  refine g_iushr dJ6_bitCount_0f7a4_38 ?_
  refine g_iadd dJ6_bitCount_0f7a4_39 ?_
  refine g_istore_n dJ6_bitCount_0f7a4_40 (by decide) ?_
  show Go _ _ _ _ _ _ [_] _ _ _
  refine g_iload_n dJ6_bitCount_0f7a4_41 rfl ?_
  refine g_iload_n dJ6_bitCount_0f7a4_42 rfl ?_
  refine g_bipush (v := 16) dJ6_bitCount_0f7a4_43 (by decide) ?_
  refine g_iushr dJ6_bitCount_0f7a4_45 ?_
  refine g_iadd dJ6_bitCount_0f7a4_46 ?_
  refine g_istore_n dJ6_bitCount_0f7a4_47 (by decide) ?_
  show Go _ _ _ _ _ _ [_] _ _ _
  refine g_iload_n dJ6_bitCount_0f7a4_48 rfl ?_
  refine g_bipush (v := 63) dJ6_bitCount_0f7a4_49 (by decide) ?_
  refine g_iand dJ6_bitCount_0f7a4_51 ?_
  refine g_iret dJ6_bitCount_0f7a4_52 (fun ty h => by cases h; rfl) ?_
  exact ⟨(bcI_64 n hn).symm ▸ rfl, rfl⟩
def mkS (P : Pce) (x w : Nat) : Nat := if w = 1 then (if oneN P x then 1 else 0) else if w = 2 then x - cntK P 2 x else if w = 3 then cntK P 3 x else if w = 4 then cntTie P x else popN (hrK P 0 (fun _ => 0) x)
def tlS (P : Pce) (x w : Nat) : Nat := if w = 0 then P.2.2.1 x else if w = 1 then hrS P (fun _ => 0) x else cntSnd P x
theorem ct_markOf {P : Pce} {x w : Nat} (hP : PcC P I) (hO : PcOK P) (hx : x < P.2.1) (hw1 : 1 ≤ w) (hw : w ≤ 5) : Ct X (d + 3) 66 M_X3_markOf 66 [.ref 22, .int (nI x), .int (nI w)] (I, J, rf0) (RI (fun y9 m => y9 = nI (mkS P x w) ∧ m = (I, J, rf0))) := by
  have h14 := hO.2.1
  show Go _ _ _ _ _ _ [_, _, _] _ _ _
  refine g_iload_n dX3_markOf_0 rfl ?_
  rcases (show w = 1 ∨ w = 2 ∨ w = 3 ∨ w = 4 ∨ w = 5 by omega) with rfl | rfl | rfl | rfl | rfl
  · skip
    refine g_tabIn (off := 31) (tgt := 32) dX3_markOf_1 (by decide) (by decide) (by decide) (by decide) ?_
    refine g_aload_n dX3_markOf_32 rfl ?_
    refine g_iload_n dX3_markOf_33 rfl ?_
    refine g_callVi dX3_markOf_34 ln_X3_76 ⟨_, rfl⟩ rfl (by decide) ⟨_, _, rfl⟩ rfl (Nat.le_of_ble_eq_true rfl) (Nat.le_of_ble_eq_true rfl) (ct_isOneNote (x := x) hP hO (by omega)) rfl (fun r34 m34 h34 => ?_)
    obtain ⟨rfl, rfl⟩ := h34
    refine g_if_eq (tgt := 44) dX3_markOf_37 (by decide) (fun c37 => ?_) (fun c37 => ?_)
    · skip
      refine g_iconst (v := 0) dX3_markOf_44 (by decide) ?_
      refine g_iret dX3_markOf_45 (fun ty h => by cases h; rfl) ?_
      refine ⟨?_, rfl⟩
      unfold mkS
      rw [if_pos rfl]
      first
        | (rw [bI_ne c37]; rfl)
        | (rw [bI_eq c37]; rfl)
    · skip
      refine g_iconst (v := 1) dX3_markOf_40 (by decide) ?_
      refine g_goto (tgt := 45) dX3_markOf_41 (by decide) ?_
      refine g_iret dX3_markOf_45 (fun ty h => by cases h; rfl) ?_
      refine ⟨?_, rfl⟩
      unfold mkS
      rw [if_pos rfl]
      first
        | (rw [bI_ne c37]; rfl)
        | (rw [bI_eq c37]; rfl)
  · skip
    refine g_tabIn (off := 45) (tgt := 46) dX3_markOf_1 (by decide) (by decide) (by decide) (by decide) ?_
    refine g_iload_n dX3_markOf_46 rfl ?_
    refine g_aload_n dX3_markOf_47 rfl ?_
    refine g_iload_n dX3_markOf_48 rfl ?_
    refine g_iconst (v := 2) dX3_markOf_49 (by decide) ?_
    refine g_callVi dX3_markOf_50 ln_X3_79 ⟨_, rfl⟩ rfl (by decide) ⟨_, _, rfl⟩ rfl (Nat.le_of_ble_eq_true rfl) (Nat.le_of_ble_eq_true rfl) (ct_countAhead (x := x) (w := 2) hP hO (by omega) (by decide)) rfl (fun r50 m50 h50 => ?_)
    obtain ⟨rfl, rfl⟩ := h50
    refine g_isub dX3_markOf_53 ?_
    refine g_iret dX3_markOf_54 (fun ty h => by cases h; rfl) ?_
    exact ⟨pk_sub (cntP_le _ x), rfl⟩
  · skip
    refine g_tabIn (off := 54) (tgt := 55) dX3_markOf_1 (by decide) (by decide) (by decide) (by decide) ?_
    refine g_aload_n dX3_markOf_55 rfl ?_
    refine g_iload_n dX3_markOf_56 rfl ?_
    refine g_iconst (v := 3) dX3_markOf_57 (by decide) ?_
    refine g_callVi dX3_markOf_58 ln_X3_79 ⟨_, rfl⟩ rfl (by decide) ⟨_, _, rfl⟩ rfl (Nat.le_of_ble_eq_true rfl) (Nat.le_of_ble_eq_true rfl) (ct_countAhead (x := x) (w := 3) hP hO (by omega) (by decide)) rfl (fun r58 m58 h58 => ?_)
    obtain ⟨rfl, rfl⟩ := h58
    refine g_iret dX3_markOf_61 (fun ty h => by cases h; rfl) ?_
    exact ⟨rfl, rfl⟩
  · skip
    refine g_tabIn (off := 61) (tgt := 62) dX3_markOf_1 (by decide) (by decide) (by decide) (by decide) ?_
    refine g_aload_n dX3_markOf_62 rfl ?_
    refine g_iload_n dX3_markOf_63 rfl ?_
    refine g_callVi dX3_markOf_64 ln_X3_82 ⟨_, rfl⟩ rfl (by decide) ⟨_, _, rfl⟩ rfl (Nat.le_of_ble_eq_true rfl) (Nat.le_of_ble_eq_true rfl) (ct_countTied (x := x) hP hO (by omega)) rfl (fun r64 m64 h64 => ?_)
    obtain ⟨rfl, rfl⟩ := h64
    refine g_iret dX3_markOf_67 (fun ty h => by cases h; rfl) ?_
    exact ⟨rfl, rfl⟩
  · skip
    refine g_tabOut (tgt := 68) dX3_markOf_1 (by decide) (by decide) ?_
    refine g_aload_n dX3_markOf_68 rfl ?_
    refine g_iload_n dX3_markOf_69 rfl ?_
    refine g_iconst (v := 0) dX3_markOf_70 (by decide) ?_
    refine g_gets dX3_markOf_71 sf_X3_55 ?_
    refine g_callVi dX3_markOf_74 ln_X3_51 ⟨_, rfl⟩ rfl (by decide) ⟨_, _, rfl⟩ rfl (Nat.le_of_ble_eq_true rfl) (Nat.le_of_ble_eq_true rfl) (ct_clashes (x := x) (k := 0) hP hO (by omega) (by decide) OuR0 OA.nobody) rfl (fun r74 m74 h74 => ?_)
    obtain ⟨rfl, rfl⟩ := h74
    refine g_callSi dX3_markOf_77 ln_X3_85 ⟨_, rfl⟩ rfl (Nat.le_of_ble_eq_true rfl) (Nat.le_of_ble_eq_true rfl) (ct_bitCount (hrK_lt hO 0 _ x)) rfl (fun r77 m77 h77 => ?_)
    obtain ⟨rfl, rfl⟩ := h77
    refine g_iret dX3_markOf_80 (fun ty h => by cases h; rfl) ?_
    exact ⟨rfl, rfl⟩
theorem ct_tellOf {P : Pce} {x w : Nat} (hP : PcC P I) (hO : PcOK P) (hx : x < P.2.1) (hw : w ≤ 2) : Ct X (d + 4) 66 M_X3_tellOf 66 [.ref 22, .int (nI x), .int (nI w)] (I, J, rf0) (RI (fun y9 m => y9 = nI (tlS P x w) ∧ m = (I, J, rf0))) := by
  have h14 := hO.2.1
  show Go _ _ _ _ _ _ [_, _, _] _ _ _
  refine g_iload_n dX3_tellOf_0 rfl ?_
  rcases (show w = 0 ∨ w = 1 ∨ w = 2 by omega) with rfl | rfl | rfl
  · skip
    refine g_look (off := 27) (tgt := 28) dX3_tellOf_1 (by decide) (by decide) (by decide) ?_
    refine g_aload_n dX3_tellOf_28 rfl ?_
    refine g_iload_n dX3_tellOf_29 rfl ?_
    refine g_callVi dX3_tellOf_30 ln_X3_37 ⟨_, rfl⟩ rfl (by decide) ⟨_, _, rfl⟩ rfl (Nat.le_of_ble_eq_true rfl) (Nat.le_of_ble_eq_true rfl) (ct_kindOf hP hO hx) rfl (fun r30 m30 h30 => ?_)
    obtain ⟨rfl, rfl⟩ := h30
    refine g_iret dX3_tellOf_33 (fun ty h => by cases h; rfl) ?_
    exact ⟨rfl, rfl⟩
  · skip
    refine g_look (off := 33) (tgt := 34) dX3_tellOf_1 (by decide) (by decide) (by decide) ?_
    refine g_aload_n dX3_tellOf_34 rfl ?_
    refine g_iload_n dX3_tellOf_35 rfl ?_
    refine g_callVi dX3_tellOf_36 ln_X3_70 ⟨_, rfl⟩ rfl (by decide) ⟨_, _, rfl⟩ rfl (Nat.le_of_ble_eq_true rfl) (Nat.le_of_ble_eq_true rfl) (ct_heardPlainly hP hO hx) rfl (fun r36 m36 h36 => ?_)
    obtain ⟨rfl, rfl⟩ := h36
    refine g_iret dX3_tellOf_39 (fun ty h => by cases h; rfl) ?_
    exact ⟨rfl, rfl⟩
  · skip
    refine g_look (off := 39) (tgt := 40) dX3_tellOf_1 (by decide) (by decide) (by decide) ?_
    refine g_aload_n dX3_tellOf_40 rfl ?_
    refine g_iload_n dX3_tellOf_41 rfl ?_
    refine g_callVi dX3_tellOf_42 ln_X3_73 ⟨_, rfl⟩ rfl (by decide) ⟨_, _, rfl⟩ rfl (Nat.le_of_ble_eq_true rfl) (Nat.le_of_ble_eq_true rfl) (ct_countSounding hP hO (by omega)) rfl (fun r42 m42 h42 => ?_)
    obtain ⟨rfl, rfl⟩ := h42
    refine g_iret dX3_tellOf_45 (fun ty h => by cases h; rfl) ?_
    exact ⟨rfl, rfl⟩
def S_place (P : Pce) (tl x w : Int32) : Int32 × Int32 := if inR x P.2.1 && inR w 3 then (1, nI (tlS P x.toNatClampNeg w.toNatClampNeg)) else (-1, tl)
def S_note (P : Pce) (p x : Int32) : Int32 := if inR p P.1 && inR x P.2.1 then nI (P.2.2.2 x.toNatClampNeg p.toNatClampNeg) else -1
def S_mark (P : Pce) (fn : Fnd) (x w : Int32) : Int32 × Fnd := if inR x P.2.1 && (inR w 6 && decide (¬ w = 0)) then (if isK (P.2.2.1 x.toNatClampNeg) w.toNatClampNeg then (nI (mkS P x.toNatClampNeg w.toNatClampNeg), fn) else (-3, fndS 3 fn)) else (-1, fn)
theorem inR3 {w : Int32} : inR w 3 = true ↔ 0 ≤ w ∧ w ≤ 2 := by
  rw [inR_iff]
  have e : w < nI 3 ↔ w ≤ 2 := by
    rw [Int32.lt_iff_toInt_lt, Int32.le_iff_toInt_le, show (nI 3).toInt = 3 by decide, show (2 : Int32).toInt = 2 by decide]; omega
  rw [e]
theorem inR6 {w : Int32} : inR w 6 = true ↔ 0 ≤ w ∧ w ≤ 5 := by
  rw [inR_iff]
  have e : w < nI 6 ↔ w ≤ 5 := by
    rw [Int32.lt_iff_toInt_lt, Int32.le_iff_toInt_le, show (nI 6).toInt = 6 by decide, show (5 : Int32).toInt = 5 by decide]; omega
  rw [e]
theorem bfalse {b : Bool} (h : ¬ b = true) : b = false := by cases b with
  | true => exact absurd rfl h
  | false => rfl
theorem pc_place {rw tx : Tab} {P : Pce} {ds : List Deed} {sh : Shf} {tl : Int32} {ch : Int64 × Int64} {fn : Fnd} {x w : Int32} (hA : AbsC rw tx P ds sh tl ch fn I J) (hO : StOK rw tx P ds sh) : Ct X (d + 5) 66 M_X10_place 66 [.ref 0, .int x, .int w] (I, J, rf0) (RI (fun y9 m => ∃ I', m = (I', J, rf0) ∧ FrC I I' ∧ y9 = (S_place P tl x w).1 ∧ AbsC rw tx P ds sh (S_place P tl x w).2 ch fn I' J)) := by
  have hP := hA.2.2.1
  have hQ := hO.2.2.1
  have h14 := hQ.2.1
  have h4 := hQ.1
  show Go _ _ _ _ _ _ [_, _, _] _ _ _
  refine g_aload_n dX10_place_0 rfl ?_
  refine t_getR dX10_place_1 fl_X10_35 rfl (by decide) rfl (by decide) rfl ?_
  refine g_iload_n dX10_place_4 rfl ?_
  refine g_callVi dX10_place_5 ln_X10_168 ⟨_, rfl⟩ rfl (by decide) ⟨_, _, rfl⟩ rfl (Nat.le_of_ble_eq_true rfl) (Nat.le_of_ble_eq_true rfl) (ct_hasPlace hP) rfl (fun r5 m5 h5 => ?_)
  obtain ⟨rfl, rfl⟩ := h5
  refine g_if_eq (tgt := 20) dX10_place_8 (by decide) (fun c8 => ?_) (fun c8 => ?_)
  · skip
    refine g_iconst (v := -1) dX10_place_20 (by decide) ?_
    refine g_iret dX10_place_21 (fun ty h => by cases h; rfl) ?_
    have hS : S_place P tl x w = (-1, tl) := by
      unfold S_place
      rw [if_neg (fun q => by
        rw [Bool.and_eq_true] at q
        first
          | (rw [bI_eq c8] at q; exact absurd q.1 (by decide))
          | exact absurd (inR3.mp q.2).1 (Int32.not_le.mpr c12)
          | exact c17 (inR3.mp q.2).2)]
    exact ⟨_, rfl, FrC.rf, by rw [hS], by rw [hS]; exact hA⟩
  · skip
    refine g_iload_n dX10_place_11 rfl ?_
    refine g_if_lt (tgt := 20) dX10_place_12 (by decide) (fun c12 => ?_) (fun c12 => ?_)
    · skip
      refine g_iconst (v := -1) dX10_place_20 (by decide) ?_
      refine g_iret dX10_place_21 (fun ty h => by cases h; rfl) ?_
      have hS : S_place P tl x w = (-1, tl) := by
        unfold S_place
        rw [if_neg (fun q => by
          rw [Bool.and_eq_true] at q
          first
            | (rw [bI_eq c8] at q; exact absurd q.1 (by decide))
            | exact absurd (inR3.mp q.2).1 (Int32.not_le.mpr c12)
            | exact c17 (inR3.mp q.2).2)]
      exact ⟨_, rfl, FrC.rf, by rw [hS], by rw [hS]; exact hA⟩
    · skip
      refine g_iload_n dX10_place_15 rfl ?_
      refine g_iconst (v := 2) dX10_place_16 (by decide) ?_
      refine g_icmp_le (tgt := 22) dX10_place_17 (by decide) (fun c17 => ?_) (fun c17 => ?_)
      · skip
        obtain ⟨x, hx, rfl⟩ := inR_ix (by omega) (bI_ne c8)
        have hw3 : inR w 3 = true := inR3.mpr ⟨Int32.not_lt.mp c12, c17⟩
        obtain ⟨w, hw2, rfl⟩ := inR_ix (by decide) hw3
        have hw : w ≤ 2 := by omega
        refine g_aload_n dX10_place_22 rfl ?_
        refine g_aload_n dX10_place_23 rfl ?_
        refine t_getR dX10_place_24 fl_X10_35 rfl (by decide) rfl (by decide) rfl ?_
        refine g_iload_n dX10_place_27 rfl ?_
        refine g_iload_n dX10_place_28 rfl ?_
        refine g_callVi dX10_place_29 ln_X10_171 ⟨_, rfl⟩ rfl (by decide) ⟨_, _, rfl⟩ rfl (Nat.le_of_ble_eq_true rfl) (Nat.le_of_ble_eq_true rfl) (ct_tellOf hP hQ hx hw) rfl (fun r29 m29 h29 => ?_)
        obtain ⟨rfl, rfl⟩ := h29
        refine t_putI dX10_place_32 fl_X10_111 rfl (by decide) rfl (by decide) ?_
        refine g_iconst (v := 1) dX10_place_35 (by decide) ?_
        refine g_iret dX10_place_36 (fun ty h => by cases h; rfl) ?_
        have hS : S_place P tl (nI x) (nI w) = (1, nI (tlS P x w)) := by
          unfold S_place
          rw [inR_nI (by omega) hx, hw3, cl_nI (by omega), cl_nI (by omega)]; rfl
        exact ⟨_, rfl, FrC.rf.up (by decide), by rw [hS], by rw [hS]; exact hA.told⟩
      · skip
        refine g_iconst (v := -1) dX10_place_20 (by decide) ?_
        refine g_iret dX10_place_21 (fun ty h => by cases h; rfl) ?_
        have hS : S_place P tl x w = (-1, tl) := by
          unfold S_place
          rw [if_neg (fun q => by
            rw [Bool.and_eq_true] at q
            first
              | (rw [bI_eq c8] at q; exact absurd q.1 (by decide))
              | exact absurd (inR3.mp q.2).1 (Int32.not_le.mpr c12)
              | exact c17 (inR3.mp q.2).2)]
        exact ⟨_, rfl, FrC.rf, by rw [hS], by rw [hS]; exact hA⟩
theorem pc_note {rw tx : Tab} {P : Pce} {ds : List Deed} {sh : Shf} {tl : Int32} {ch : Int64 × Int64} {fn : Fnd} {p x : Int32} (hA : AbsC rw tx P ds sh tl ch fn I J) (hO : StOK rw tx P ds sh) : Ct X (d + 2) 66 M_X10_note 66 [.ref 0, .int p, .int x] (I, J, rf0) (RI (fun y9 m => ∃ I', m = (I', J, rf0) ∧ FrC I I' ∧ y9 = S_note P p x ∧ AbsC rw tx P ds sh tl ch fn I' J)) := by
  have hP := hA.2.2.1
  have hQ := hO.2.2.1
  have h14 := hQ.2.1
  have h4 := hQ.1
  show Go _ _ _ _ _ _ [_, _, _] _ _ _
  refine g_aload_n dX10_note_0 rfl ?_
  refine t_getR dX10_note_1 fl_X10_35 rfl (by decide) rfl (by decide) rfl ?_
  refine g_iload_n dX10_note_4 rfl ?_
  refine g_callVi dX10_note_5 ln_X10_174 ⟨_, rfl⟩ rfl (by decide) ⟨_, _, rfl⟩ rfl (Nat.le_of_ble_eq_true rfl) (Nat.le_of_ble_eq_true rfl) (ct_hasPlayer hP) rfl (fun r5 m5 h5 => ?_)
  obtain ⟨rfl, rfl⟩ := h5
  refine g_if_eq (tgt := 22) dX10_note_8 (by decide) (fun c8 => ?_) (fun c8 => ?_)
  · skip
    refine g_iconst (v := -1) dX10_note_22 (by decide) ?_
    refine g_iret dX10_note_23 (fun ty h => by cases h; rfl) ?_
    refine ⟨_, rfl, FrC.rf, ?_, hA⟩
    unfold S_note
    first
      | (rw [bI_eq c8]; rfl)
      | (rw [bI_eq c19, Bool.and_false]; rfl)
  · skip
    refine g_aload_n dX10_note_11 rfl ?_
    refine t_getR dX10_note_12 fl_X10_35 rfl (by decide) rfl (by decide) rfl ?_
    refine g_iload_n dX10_note_15 rfl ?_
    refine g_callVi dX10_note_16 ln_X10_168 ⟨_, rfl⟩ rfl (by decide) ⟨_, _, rfl⟩ rfl (Nat.le_of_ble_eq_true rfl) (Nat.le_of_ble_eq_true rfl) (ct_hasPlace hP) rfl (fun r16 m16 h16 => ?_)
    obtain ⟨rfl, rfl⟩ := h16
    refine g_if_ne (tgt := 24) dX10_note_19 (by decide) (fun c19 => ?_) (fun c19 => ?_)
    · skip
      have q1 := bI_ne c8
      have q2 := bI_ne c19
      obtain ⟨p, hp, rfl⟩ := inR_ix (by omega) q1
      obtain ⟨x, hx, rfl⟩ := inR_ix (by omega) q2
      refine g_aload_n dX10_note_24 rfl ?_
      refine t_getR dX10_note_25 fl_X10_35 rfl (by decide) rfl (by decide) rfl ?_
      refine g_iload_n dX10_note_28 rfl ?_
      refine g_iload_n dX10_note_29 rfl ?_
      refine g_callVi dX10_note_30 ln_X10_177 ⟨_, rfl⟩ rfl (by decide) ⟨_, _, rfl⟩ rfl (Nat.le_of_ble_eq_true rfl) (Nat.le_of_ble_eq_true rfl) (ct_noteOf hP hQ hp hx) rfl (fun r30 m30 h30 => ?_)
      obtain ⟨rfl, rfl⟩ := h30
      refine g_iret dX10_note_33 (fun ty h => by cases h; rfl) ?_
      refine ⟨_, rfl, FrC.rf, ?_, hA⟩
      unfold S_note
      rw [q1, q2, cl_nI (by omega), cl_nI (by omega)]
      rfl
    · skip
      refine g_iconst (v := -1) dX10_note_22 (by decide) ?_
      refine g_iret dX10_note_23 (fun ty h => by cases h; rfl) ?_
      refine ⟨_, rfl, FrC.rf, ?_, hA⟩
      unfold S_note
      first
        | (rw [bI_eq c8]; rfl)
        | (rw [bI_eq c19, Bool.and_false]; rfl)
theorem pc_mark {rw tx : Tab} {P : Pce} {ds : List Deed} {sh : Shf} {tl : Int32} {ch : Int64 × Int64} {fn : Fnd} {x w : Int32} (hA : AbsC rw tx P ds sh tl ch fn I J) (hO : StOK rw tx P ds sh) : Ct X (d + 4) 66 M_X10_mark 66 [.ref 0, .int x, .int w] (I, J, rf0) (RI (fun y9 m => ∃ I', m = (I', J, rf0) ∧ FrC I I' ∧ y9 = (S_mark P fn x w).1 ∧ AbsC rw tx P ds sh tl ch (S_mark P fn x w).2 I' J)) := by
  have hP := hA.2.2.1
  have hQ := hO.2.2.1
  have h14 := hQ.2.1
  have h4 := hQ.1
  show Go _ _ _ _ _ _ [_, _, _] _ _ _
  refine g_aload_n dX10_mark_0 rfl ?_
  refine t_getR dX10_mark_1 fl_X10_35 rfl (by decide) rfl (by decide) rfl ?_
  refine g_iload_n dX10_mark_4 rfl ?_
  refine g_callVi dX10_mark_5 ln_X10_168 ⟨_, rfl⟩ rfl (by decide) ⟨_, _, rfl⟩ rfl (Nat.le_of_ble_eq_true rfl) (Nat.le_of_ble_eq_true rfl) (ct_hasPlace hP) rfl (fun r5 m5 h5 => ?_)
  obtain ⟨rfl, rfl⟩ := h5
  refine g_if_eq (tgt := 21) dX10_mark_8 (by decide) (fun c8 => ?_) (fun c8 => ?_)
  · skip
    refine g_iconst (v := -1) dX10_mark_21 (by decide) ?_
    refine g_iret dX10_mark_22 (fun ty h => by cases h; rfl) ?_
    have hS : S_mark P fn x w = (-1, fn) := by
      unfold S_mark
      rw [if_neg (fun q => by
        rw [Bool.and_eq_true, Bool.and_eq_true] at q
        first
          | (rw [bI_eq c8] at q; exact absurd q.1 (by decide))
          | (have h1 := Int32.lt_iff_toInt_lt.mp c13
             have h2 := Int32.le_iff_toInt_le.mp (inR6.mp q.2.1).1
             have h3 := of_decide_eq_true q.2.2
             rw [show (1 : Int32).toInt = 1 by decide] at h1
             rw [show (0 : Int32).toInt = 0 by decide] at h2
             exact h3 (Int32.toInt_inj.mp (by rw [show (0 : Int32).toInt = 0 by decide]; omega)))
          | exact c18 (inR6.mp q.2.1).2)]
    exact ⟨_, rfl, FrC.rf, by rw [hS], by rw [hS]; exact hA⟩
  · skip
    refine g_iload_n dX10_mark_11 rfl ?_
    refine g_iconst (v := 1) dX10_mark_12 (by decide) ?_
    refine g_icmp_lt (tgt := 21) dX10_mark_13 (by decide) (fun c13 => ?_) (fun c13 => ?_)
    · skip
      refine g_iconst (v := -1) dX10_mark_21 (by decide) ?_
      refine g_iret dX10_mark_22 (fun ty h => by cases h; rfl) ?_
      have hS : S_mark P fn x w = (-1, fn) := by
        unfold S_mark
        rw [if_neg (fun q => by
          rw [Bool.and_eq_true, Bool.and_eq_true] at q
          first
            | (rw [bI_eq c8] at q; exact absurd q.1 (by decide))
            | (have h1 := Int32.lt_iff_toInt_lt.mp c13
               have h2 := Int32.le_iff_toInt_le.mp (inR6.mp q.2.1).1
               have h3 := of_decide_eq_true q.2.2
               rw [show (1 : Int32).toInt = 1 by decide] at h1
               rw [show (0 : Int32).toInt = 0 by decide] at h2
               exact h3 (Int32.toInt_inj.mp (by rw [show (0 : Int32).toInt = 0 by decide]; omega)))
            | exact c18 (inR6.mp q.2.1).2)]
      exact ⟨_, rfl, FrC.rf, by rw [hS], by rw [hS]; exact hA⟩
    · skip
      refine g_iload_n dX10_mark_16 rfl ?_
      refine g_iconst (v := 5) dX10_mark_17 (by decide) ?_
      refine g_icmp_le (tgt := 23) dX10_mark_18 (by decide) (fun c18 => ?_) (fun c18 => ?_)
      · skip
        obtain ⟨x, hx, rfl⟩ := inR_ix (by omega) (bI_ne c8)
        have hw6 : inR w 6 = true := inR6.mpr ⟨by
          have h1 := (not_congr (Int32.lt_iff_toInt_lt)).mp c13
          rw [Int32.le_iff_toInt_le]
          rw [show (1 : Int32).toInt = 1 by decide] at h1
          rw [show (0 : Int32).toInt = 0 by decide]
          omega, c18⟩
        have hw0 : ¬ w = 0 := fun q => c13 (by rw [q]; decide)
        obtain ⟨w, hw2, rfl⟩ := inR_ix (by decide) hw6
        have hw1 : 1 ≤ w := by
          rcases Nat.eq_zero_or_pos w with q | q
          · exact absurd (by rw [q]; rfl) hw0
          · exact q
        have hw5 : w ≤ 5 := by omega
        refine g_aload_n dX10_mark_23 rfl ?_
        refine t_getR dX10_mark_24 fl_X10_35 rfl (by decide) rfl (by decide) rfl ?_
        refine g_iload_n dX10_mark_27 rfl ?_
        refine g_iload_n dX10_mark_28 rfl ?_
        refine g_callVi dX10_mark_29 ln_X10_180 ⟨_, rfl⟩ rfl (by decide) ⟨_, _, rfl⟩ rfl (Nat.le_of_ble_eq_true rfl) (Nat.le_of_ble_eq_true rfl) (ct_isOf hP hQ hx (by omega)) rfl (fun r29 m29 h29 => ?_)
        obtain ⟨rfl, rfl⟩ := h29
        refine g_if_ne (tgt := 41) dX10_mark_32 (by decide) (fun c32 => ?_) (fun c32 => ?_)
        · skip
          refine g_aload_n dX10_mark_41 rfl ?_
          refine t_getR dX10_mark_42 fl_X10_35 rfl (by decide) rfl (by decide) rfl ?_
          refine g_iload_n dX10_mark_45 rfl ?_
          refine g_iload_n dX10_mark_46 rfl ?_
          refine g_callVi dX10_mark_47 ln_X10_184 ⟨_, rfl⟩ rfl (by decide) ⟨_, _, rfl⟩ rfl (Nat.le_of_ble_eq_true rfl) (Nat.le_of_ble_eq_true rfl) (ct_markOf hP hQ hx hw1 hw5) rfl (fun r47 m47 h47 => ?_)
          obtain ⟨rfl, rfl⟩ := h47
          refine g_iret dX10_mark_50 (fun ty h => by cases h; rfl) ?_
          have hS : S_mark P fn (nI x) (nI w) = (nI (mkS P x w), fn) := by
            unfold S_mark
            rw [inR_nI (by omega) hx, hw6, decide_eq_true hw0, cl_nI (by omega), cl_nI (by omega), bI_ne c32]; rfl
          exact ⟨_, rfl, FrC.rf, by rw [hS], by rw [hS]; exact hA⟩
        · skip
          refine g_aload_n dX10_mark_35 rfl ?_
          refine g_iconst (v := 3) dX10_mark_36 (by decide) ?_
          refine g_callVi dX10_mark_37 ln_X10_96 ⟨_, rfl⟩ rfl (by decide) ⟨_, _, rfl⟩ rfl (Nat.le_of_ble_eq_true rfl) (Nat.le_of_ble_eq_true rfl) (ct_find (w := 3) (by decide)) rfl (fun r37 m37 h37 => ?_)
          obtain ⟨rfl, rfl⟩ := h37
          refine g_iret dX10_mark_40 (fun ty h => by cases h; rfl) ?_
          have hS : S_mark P fn (nI x) (nI w) = (-3, fndS 3 fn) := by
            unfold S_mark
            rw [inR_nI (by omega) hx, hw6, decide_eq_true hw0, cl_nI (by omega), cl_nI (by omega), bI_eq c32]; rfl
          exact ⟨_, rfl, FrC.find, by rw [hS], by rw [hS]; exact hA.find (by decide)⟩
      · skip
        refine g_iconst (v := -1) dX10_mark_21 (by decide) ?_
        refine g_iret dX10_mark_22 (fun ty h => by cases h; rfl) ?_
        have hS : S_mark P fn x w = (-1, fn) := by
          unfold S_mark
          rw [if_neg (fun q => by
            rw [Bool.and_eq_true, Bool.and_eq_true] at q
            first
              | (rw [bI_eq c8] at q; exact absurd q.1 (by decide))
              | (have h1 := Int32.lt_iff_toInt_lt.mp c13
                 have h2 := Int32.le_iff_toInt_le.mp (inR6.mp q.2.1).1
                 have h3 := of_decide_eq_true q.2.2
                 rw [show (1 : Int32).toInt = 1 by decide] at h1
                 rw [show (0 : Int32).toInt = 0 by decide] at h2
                 exact h3 (Int32.toInt_inj.mp (by rw [show (0 : Int32).toInt = 0 by decide]; omega)))
              | exact c18 (inR6.mp q.2.1).2)]
        exact ⟨_, rfl, FrC.rf, by rw [hS], by rw [hS]; exact hA⟩
end
