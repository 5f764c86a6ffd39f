section
variable {X : Nat × (Nat → Int32)} {d : Nat} {I : Nat → Nat → Int32} {J : Nat → Nat → Int64}
/-! ===== promises 26 to 31 and 42, class side ===== -/
theorem smF_mono {f g : Nat → Nat} (h : ∀ i, f i ≤ g i) : ∀ n, smF f n ≤ smF g n
  | 0 => Nat.le_refl _
  | n + 1 => Nat.add_le_add (smF_mono h n) (h n)
theorem smF_le {f : Nat → Nat} {b : Nat} (h : ∀ i, f i ≤ b) : ∀ n, smF f n ≤ n * b
  | 0 => Nat.zero_le _
  | n + 1 => by
    rw [smF_s, Nat.succ_mul]
    exact Nat.add_le_add (smF_le h n) (h n)
theorem smF_pos {f : Nat → Nat} {i : Nat} (h : 0 < f i) : ∀ {n : Nat}, i < n → 0 < smF f n
  | 0, q => absurd q (Nat.not_lt_zero i)
  | n + 1, q => by
    rw [smF_s]
    rcases Nat.lt_or_ge i n with q1 | q1
    · have := smF_pos h q1; omega
    · rw [show n = i by omega]; omega
theorem sm_cnt {f : Nat → Nat} {p : Nat → Bool} {n : Nat} (h : ∀ i, 0 < f i ↔ p i = true) : smF f n = 0 ↔ cntP p n = 0 := by
  constructor
  · intro h0
    refine cntP_no (fun i hi => ?_)
    cases hp : p i with
    | true => have := smF_pos ((h i).mpr hp) hi; omega
    | false => rfl
  · intro h0
    refine smF_zero (fun i hi => ?_)
    have := cntP_zero h0 i hi
    rcases Nat.eq_zero_or_pos (f i) with q | q
    · exact q
    · rw [(h i).mp q] at this; cases this
theorem fW_pos {P : Pce} {s : Evs} {c : Nat} : 0 < fW P s c ↔ ftB P s c = true := by
  unfold fW
  cases ftB P s c with
  | true => exact ⟨fun _ => rfl, fun _ => wtC_pos c P.1⟩
  | false => exact ⟨fun q => absurd q (Nat.lt_irrefl 0), fun q => (by cases q)⟩
theorem wE_pos {P : Pce} {s : Evs} {p c : Nat} : 0 < wE P s p 2 c ↔ ft0 P s p c = true := by
  unfold wE ft0
  by_cases h : dC c p = 2
  · rw [if_pos h, decide_eq_true h, Bool.and_true]; exact fW_pos
  · rw [if_neg h, decide_eq_false h, Bool.and_false]; exact ⟨fun q => absurd q (Nat.lt_irrefl 0), fun q => (by cases q)⟩
theorem wE_le {P : Pce} {s : Evs} {p e c : Nat} : wE P s p e c ≤ fW P s c := by unfold wE; split <;> omega
theorem nob_le {P : Pce} {s : Evs} {p : Nat} (hp : p < P.1) (c : Nat) : nobW P s c ≤ wE P s p 2 c := by
  unfold nobW
  by_cases h : cntO c P.1 = 0
  · rw [if_pos h]
    have := Decidable.of_not_not (of_decide_eq_false (cntP_zero h p hp))
    unfold wE
    rw [if_pos this]
    exact Nat.le_refl _
  · rw [if_neg h]; exact Nat.zero_le _
theorem tot_lt {P : Pce} (hO : PcOK P) (s : Evs) : smF (fW P s) (5 ^ P.1) < 262144 := by
  have h1 := smF_le (fW_le hO s) (5 ^ P.1)
  have h2 := p5 hO.1
  have h3 : 5 ^ P.1 * 256 ≤ 625 * 256 := Nat.mul_le_mul_right _ h2
  omega
theorem wAt_lt {P : Pce} (hO : PcOK P) (s : Evs) (p e : Nat) : smF (wE P s p e) (5 ^ P.1) < 262144 := Nat.lt_of_le_of_lt (smF_mono (fun _ => wE_le) _) (tot_lt hO s)
def wO (P : Pce) (s : Evs) (p : Nat) : Nat := smF (fW P s) (5 ^ P.1) - smF (wE P s p 2) (5 ^ P.1)
def lkF (P : Pce) (s : Evs) (n : Nat) : Option Nat × Nat := foldN (fun p a => if a.2 < wO P s p then (some p, wO P s p) else a) (none, 0) n
theorem lkF_s (P : Pce) (s : Evs) (n : Nat) : lkF P s (n + 1) = if (lkF P s n).2 < wO P s n then (some n, wO P s n) else lkF P s n := rfl
theorem lkF_lt {P : Pce} (hO : PcOK P) (s : Evs) : ∀ n, (lkF P s n).2 < 262144
  | 0 => by show (0 : Nat) < 262144; decide
  | n + 1 => by
    rw [lkF_s]
    split
    · have := tot_lt hO s; show wO P s n < _; unfold wO; omega
    · exact lkF_lt hO s n
theorem lkF_in {P : Pce} {s : Evs} {p : Nat} : ∀ {n : Nat}, (lkF P s n).1 = some p → p < n
  | 0, h => (by cases h)
  | n + 1, h => by
    rw [lkF_s] at h
    split at h
    · cases h; omega
    · have := lkF_in h; omega
def loF (P : Pce) (s : Evs) (p n : Nat) : Nat := foldN (fun e b => if ¬ e = 2 ∧ smF (wE P s p b) (5 ^ P.1) < smF (wE P s p e) (5 ^ P.1) then e else b) 0 n
theorem loF_s (P : Pce) (s : Evs) (p n : Nat) : loF P s p (n + 1) = if ¬ n = 2 ∧ smF (wE P s p (loF P s p n)) (5 ^ P.1) < smF (wE P s p n) (5 ^ P.1) then n else loF P s p n := rfl
theorem loF_lt (P : Pce) (s : Evs) (p : Nat) : ∀ n, n ≤ 5 → loF P s p n < 5
  | 0, _ => by show (0 : Nat) < 5; decide
  | n + 1, h => by
    rw [loF_s]
    split
    · omega
    · exact loF_lt P s p n (by omega)
def alF (P : Pce) (s : Evs) (n : Nat) : Nat := foldN (fun p b => if cntP (ft0 P s p) (5 ^ P.1) < cntP (ft0 P s b) (5 ^ P.1) then p else b) 0 n
theorem alF_s (P : Pce) (s : Evs) (n : Nat) : alF P s (n + 1) = if cntP (ft0 P s n) (5 ^ P.1) < cntP (ft0 P s (alF P s n)) (5 ^ P.1) then n else alF P s n := rfl
theorem alF_1 (P : Pce) (s : Evs) : alF P s 1 = 0 := by
  rw [alF_s]; exact if_neg (Nat.lt_irrefl _)
theorem alF_lt {P : Pce} {s : Evs} : ∀ {n : Nat}, 0 < n → alF P s n < n
  | n + 1, _ => by
    rw [alF_s]
    split
    · omega
    · rcases Nat.eq_zero_or_pos n with q | q
      · subst q; show (0 : Nat) < 1; decide
      · have := alF_lt (P := P) (s := s) q; omega
def chS (a b : Nat) : Int64 × Int64 := (lN (a / Nat.gcd a b), lN (b / Nat.gcd a b))
def bgB (P : Pce) (s : Evs) (x p : Nat) (z : Int) : Bool := agB P s (fun _ => 0) s.2.1 x && agB P s (upR (fun _ => 0) p z) x s.1
def b2 (b : Bool) : Nat := if b then 1 else 0
def hzN (P : Pce) (s : Evs) (x p j : Nat) : Nat := smF (fun j => b2 (bgB P s x p (2 * (j : Int) - 1))) j
def heN (P : Pce) (s : Evs) (x n : Nat) : Nat := smF (fun p => hzN P s x p 2) n
def wyN (P : Pce) (s : Evs) (n : Nat) : Nat := smF (fun i => heN P s (s.2.1 + i) P.1) n
def bsN (P : Pce) (s : Evs) (n : Nat) : Nat := foldN (fun i a => if 0 < heN P s (s.2.1 + i) P.1 then a ||| 2 ^ (s.2.1 + i) else a) 0 n
def S_fits (P : Pce) (ds : List Deed) (tl : Int32) : Int32 × Int32 := if P.2.1 = 0 then (-4, tl) else (nI (cntP (ftB P (evO P ds)) (5 ^ P.1)), oI (fstN (ftB P (evO P ds)) (5 ^ P.1)))
def S_likely (P : Pce) (ds : List Deed) : Int32 := if P.2.1 = 0 then -4 else oI (hvF P (evO P ds) (5 ^ P.1)).1
def S_odds (P : Pce) (ds : List Deed) (ch : Int64 × Int64) (fn : Fnd) (p : Int32) : Int32 × (Int64 × Int64) × Fnd := if inR p P.1 then (if cntP (ftB P (evO P ds)) (5 ^ P.1) = 0 then (-3, ch, fndS 4 fn) else (1, chS (wO P (evO P ds) p.toNatClampNeg) (smF (fW P (evO P ds)) (5 ^ P.1)), fn)) else (-1, ch, fn)
def S_self (P : Pce) (ds : List Deed) (ch : Int64 × Int64) (fn : Fnd) (p : Int32) : Int32 × (Int64 × Int64) × Fnd := if inR p P.1 then (if cntP (ft0 P (evO P ds) p.toNatClampNeg) (5 ^ P.1) = 0 then (-3, ch, fndS 4 fn) else (1, chS (smF (wE P (evO P ds) p.toNatClampNeg 2) (5 ^ P.1) - smF (nobW P (evO P ds)) (5 ^ P.1)) (smF (wE P (evO P ds) p.toNatClampNeg 2) (5 ^ P.1)), fn)) else (-1, ch, fn)
def S_who (P : Pce) (ds : List Deed) (tl : Int32) (fn : Fnd) : Int32 × Int32 × Fnd := if P.2.1 = 0 then (-4, tl, fn) else if cntP (ftB P (evO P ds)) (5 ^ P.1) = 0 then (-3, tl, fndS 4 fn) else match (lkF P (evO P ds) P.1).1 with
  | none => (-9, tl, fn)
  | some p => (nI p, nI (loF P (evO P ds) p 5), fn)
def S_aloud (P : Pce) (ds : List Deed) (tl : Int32) (fn : Fnd) : Int32 × Int32 × Fnd := if P.2.1 = 0 then (-4, tl, fn) else if cntP (ftB P (evO P ds)) (5 ^ P.1) = 0 then (-3, tl, fndS 4 fn) else (nI (alF P (evO P ds) P.1), nI (cntP (ft0 P (evO P ds) (alF P (evO P ds) P.1)) (5 ^ P.1)), fn)
def S_began (P : Pce) (ds : List Deed) (tl : Int32) : Int32 × Int32 := if P.2.1 = 0 then (-4, tl) else (nI (wyN P (evO P ds) ((evO P ds).1 - (evO P ds).2.1)), nI (bsN P (evO P ds) ((evO P ds).1 - (evO P ds).2.1)))
theorem AbsC.chs {rw tx : Tab} {P : Pce} {ds : List Deed} {sh : Shf} {tl : Int32} {ch : Int64 × Int64} {fn : Fnd} {c2 : Int64 × Int64} {J' : Nat → Nat → Int64} (h : AbsC rw tx P ds sh tl ch fn I J) (h1 : J' 0 12 = c2.1) (h2 : J' 0 13 = c2.2) : AbsC rw tx P ds sh tl c2 fn I J' := ⟨h.1, h.2.1, h.2.2.1, h.2.2.2.1, h.2.2.2.2.1, h.2.2.2.2.2.1, ⟨h1, h2⟩, h.2.2.2.2.2.2.2⟩
theorem ixe {p e : Nat} : nI p * 5 + zI ((e : Int) - 2) + 2 = nI (5 * p + e) := by
  rw [show (5 : Int32) = nI 5 from rfl, pk_mul, nI_z, z_add, show (2 : Int32) = zI 2 from rfl, z_add, nI_z]
  congr 1
  omega
theorem ze_0 {e : Nat} (he : e < 100) : zI ((e : Int) - 2) = 0 ↔ e = 2 := by
  rw [z_0, z_eq (by omega) (by omega)]
  omega
theorem ze_inc (e : Nat) : zI ((e : Int) - 2) + Int32.ofInt 1 = zI (((e + 1 : Nat) : Int) - 2) := by
  rw [show Int32.ofInt 1 = zI 1 from rfl, z_add]
  congr 1
  omega
theorem ct_weightAt {P : Pce} {s : Evs} (hP : PcC P I) (hO : PcOK P) (hB : BelI P s (5 ^ P.1) I) {p e : Nat} (hp : p < P.1) (he : e < 5) : Ct X (d + 1) 66 M_X0_weightAt 66 [.ref 36, .int (nI p), .int (zI ((e : Int) - 2))] (I, J, rf0) (RI (fun y9 m => y9 = nI (smF (wE P s p e) (5 ^ P.1)) ∧ m = (I, J, rf0))) := by
  have h4 := hO.1
  show Go _ _ _ _ _ _ [_, _, _] _ _ _
  refine g_aload_n dX0_weightAt_0 rfl ?_
  refine t_getR dX0_weightAt_1 fl_X0_21 rfl (by decide) rfl (by decide) rfl ?_
  refine g_iload_n dX0_weightAt_4 rfl ?_
  refine g_callVi dX0_weightAt_5 ln_X0_95 ⟨_, rfl⟩ rfl (by decide) ⟨_, _, rfl⟩ rfl (Nat.le_of_ble_eq_true rfl) (Nat.le_of_ble_eq_true rfl) (ct_hasPlayer hP) rfl (fun r5 m5 h5 => ?_)
  obtain ⟨rfl, rfl⟩ := h5
  refine g_if_eq (tgt := 22) dX0_weightAt_8 (by decide) (fun c8 => ?_) (fun c8 => ?_)
  · exact absurd c8 (by rw [inR_nI (by omega) hp]; decide)
  · skip
    refine g_iload_n dX0_weightAt_11 rfl ?_
    refine g_bipush (v := -2) dX0_weightAt_12 (by decide) ?_
    refine g_icmp_lt (tgt := 22) dX0_weightAt_14 (by decide) (fun c14 => ?_) (fun c14 => ?_)
    · exact absurd c14 (by rw [show (-2 : Int32) = zI (-2) by decide, z_lt (by omega) (by omega)]; omega)
    · skip
      refine g_iload_n dX0_weightAt_17 rfl ?_
      refine g_iconst (v := 2) dX0_weightAt_18 (by decide) ?_
      refine g_icmp_le (tgt := 24) dX0_weightAt_19 (by decide) (fun c19 => ?_) (fun c19 => ?_)
      · skip
        refine g_aload_n dX0_weightAt_24 rfl ?_
        refine t_getR dX0_weightAt_25 fl_X0_15 rfl (by decide) rfl (by decide) rfl ?_
        refine g_iload_n dX0_weightAt_28 rfl ?_
        refine g_iconst (v := 5) dX0_weightAt_29 (by decide) ?_
        refine g_imul dX0_weightAt_30 ?_
        refine g_iload_n dX0_weightAt_31 rfl ?_
        refine g_iadd dX0_weightAt_32 ?_
        refine g_iconst (v := 2) dX0_weightAt_33 (by decide) ?_
        refine g_iadd dX0_weightAt_34 ?_
        refine t_iald dX0_weightAt_35 rfl (by decide) (by rw [ixe]; exact in_nI (by omega) (by decide)) ?_
        refine g_iret dX0_weightAt_36 (fun ty h => by cases h; rfl) ?_
        exact ⟨by rw [ixe, cl_nI (by omega)]; exact hB.2.2.2.2.2.2.1 p hp e he, rfl⟩
      · exact absurd c19 (not_not_intro (by rw [show (2 : Int32) = zI 2 from rfl, z_le (by omega) (by omega)]; omega))
theorem ct_weightAt0 {P : Pce} {s : Evs} (hP : PcC P I) (hO : PcOK P) (hB : BelI P s (5 ^ P.1) I) {p : Nat} (hp : p < P.1) : Ct X (d + 1) 66 M_X0_weightAt 66 [.ref 36, .int (nI p), .int 0] (I, J, rf0) (RI (fun y9 m => y9 = nI (smF (wE P s p 2) (5 ^ P.1)) ∧ m = (I, J, rf0))) := by
  have := ct_weightAt (X := X) (d := d) (J := J) (e := 2) hP hO hB hp (by decide)
  rwa [show zI (((2 : Nat) : Int) - 2) = 0 by decide] at this
theorem ct_weightOut {P : Pce} {s : Evs} (hP : PcC P I) (hO : PcOK P) (hB : BelI P s (5 ^ P.1) I) {p : Nat} (hp : p < P.1) : Ct X (d + 2) 66 M_X0_weightOut 66 [.ref 36, .int (nI p)] (I, J, rf0) (RI (fun y9 m => y9 = nI (wO P s p) ∧ m = (I, J, rf0))) := by
  show Go _ _ _ _ _ _ [_, _] _ _ _
  refine g_aload_n dX0_weightOut_0 rfl ?_
  refine t_getI dX0_weightOut_1 fl_X0_42 rfl (by decide) rfl (by decide) ?_
  rw [hB.2.2.2.2.1]
  refine g_aload_n dX0_weightOut_4 rfl ?_
  refine g_iload_n dX0_weightOut_5 rfl ?_
  refine g_iconst (v := 0) dX0_weightOut_6 (by decide) ?_
  refine g_callVi dX0_weightOut_7 ln_X0_99 ⟨_, rfl⟩ rfl (by decide) ⟨_, _, rfl⟩ rfl (Nat.le_of_ble_eq_true rfl) (Nat.le_of_ble_eq_true rfl) (ct_weightAt0 hP hO hB hp) rfl (fun r7 m7 h7 => ?_)
  obtain ⟨rfl, rfl⟩ := h7
  refine g_isub dX0_weightOut_10 ?_
  rw [pk_sub (smF_mono (fun _ => wE_le) _)]
  refine g_iret dX0_weightOut_11 (fun ty h => by cases h; rfl) ?_
  exact ⟨rfl, rfl⟩
theorem ct_fitW {P : Pce} {s : Evs} (hP : PcC P I) (hO : PcOK P) (hB : BelI P s (5 ^ P.1) I) {p : Nat} (hp : p < P.1) : Ct X (d + 1) 66 M_X0_fittingWithout 66 [.ref 36, .int (nI p)] (I, J, rf0) (RI (fun y9 m => y9 = nI (cntP (ft0 P s p) (5 ^ P.1)) ∧ m = (I, J, rf0))) := by
  have h4 := hO.1
  show Go _ _ _ _ _ _ [_, _] _ _ _
  refine g_aload_n dX0_fittingWithout_0 rfl ?_
  refine t_getR dX0_fittingWithout_1 fl_X0_21 rfl (by decide) rfl (by decide) rfl ?_
  refine g_iload_n dX0_fittingWithout_4 rfl ?_
  refine g_callVi dX0_fittingWithout_5 ln_X0_95 ⟨_, rfl⟩ rfl (by decide) ⟨_, _, rfl⟩ rfl (Nat.le_of_ble_eq_true rfl) (Nat.le_of_ble_eq_true rfl) (ct_hasPlayer hP) rfl (fun r5 m5 h5 => ?_)
  obtain ⟨rfl, rfl⟩ := h5
  refine g_if_eq (tgt := 20) dX0_fittingWithout_8 (by decide) (fun c8 => ?_) (fun c8 => ?_)
  · exact absurd c8 (by rw [inR_nI (by omega) hp]; decide)
  · skip
    refine g_aload_n dX0_fittingWithout_11 rfl ?_
    refine t_getR dX0_fittingWithout_12 fl_X0_18 rfl (by decide) rfl (by decide) rfl ?_
    refine g_iload_n dX0_fittingWithout_15 rfl ?_
    refine t_iald dX0_fittingWithout_16 rfl (by decide) (in_nI (by omega) (by decide)) ?_
    refine g_goto (tgt := 21) dX0_fittingWithout_17 (by decide) ?_
    refine g_iret dX0_fittingWithout_21 (fun ty h => by cases h; rfl) ?_
    exact ⟨by rw [cl_nI (by omega)]; exact hB.2.2.2.2.2.2.2 p hp, rfl⟩
theorem ct_likeliestPlayer {P : Pce} {s : Evs} (hP : PcC P I) (hO : PcOK P) (hB : BelI P s (5 ^ P.1) I) : Ct X (d + 3) 66 M_X0_likeliestPlayer 66 [.ref 36] (I, J, rf0) (RI (fun y9 m => y9 = oI (lkF P s P.1).1 ∧ m = (I, J, rf0))) := by
  have h4 := hO.1
  have htot := tot_lt hO s
  show Go _ _ _ _ _ _ [_, _, _, _] _ _ _
  refine g_bipush (v := -9) dX0_likeliestPlayer_0 (by decide) ?_
  refine g_istore_n dX0_likeliestPlayer_2 (by decide) ?_
  show Go _ _ _ _ _ _ [_, _, _, _] _ _ _
  refine g_iconst (v := 0) dX0_likeliestPlayer_3 (by decide) ?_
  refine g_istore_n dX0_likeliestPlayer_4 (by decide) ?_
  show Go _ _ _ _ _ _ [_, _, _, _] _ _ _
  refine g_iconst (v := 0) dX0_likeliestPlayer_5 (by decide) ?_
  refine g_istore_n dX0_likeliestPlayer_6 (by decide) ?_
  show Go _ _ _ _ _ _ [_, _, _, _] _ _ _
  refine go_ix P.1 (fun p => Go X (d + 3) 66 M_X0_likeliestPlayer 66 7 [.ref 36, .int (oI (lkF P s p).1), .int (nI (lkF P s p).2), .int (nI p)] [] (I, J, rf0) (RI (fun y9 m => y9 = oI (lkF P s P.1).1 ∧ m = (I, J, rf0)))) (fun p hp kk => ?_) ?_
  · have hwo : wO P s p < 262144 := by unfold wO; omega
    have hlk := lkF_lt hO s p
    refine g_iload_n dX0_likeliestPlayer_7 rfl ?_
    refine g_aload_n dX0_likeliestPlayer_8 rfl ?_
    refine t_getR dX0_likeliestPlayer_9 fl_X0_21 rfl (by decide) rfl (by decide) rfl ?_
    refine t_getI dX0_likeliestPlayer_12 fl_X0_54 rfl (by decide) rfl (by decide) ?_
    rw [hP.1]
    refine g_icmp_ge (tgt := 41) dX0_likeliestPlayer_15 (by decide) (fun c15 => ?_) (fun c15 => ?_)
    · exact absurd (nI_lt hp (by omega)) (Int32.not_lt.mpr c15)
    · skip
      refine g_aload_n dX0_likeliestPlayer_18 rfl ?_
      refine g_iload_n dX0_likeliestPlayer_19 rfl ?_
      refine g_callVi dX0_likeliestPlayer_20 ln_X0_103 ⟨_, rfl⟩ rfl (by decide) ⟨_, _, rfl⟩ rfl (Nat.le_of_ble_eq_true rfl) (Nat.le_of_ble_eq_true rfl) (ct_weightOut hP hO hB hp) rfl (fun r20 m20 h20 => ?_)
      obtain ⟨rfl, rfl⟩ := h20
      refine g_iload_n dX0_likeliestPlayer_23 rfl ?_
      refine g_icmp_le (tgt := 35) dX0_likeliestPlayer_24 (by decide) (fun c24 => ?_) (fun c24 => ?_)
      · skip
        refine g_iinc dX0_likeliestPlayer_35 rfl (by decide) ?_
        show Go _ _ _ _ _ _ [_, _, _, _] _ _ _
        refine g_goto (tgt := 7) dX0_likeliestPlayer_38 (by decide) ?_
        rw [nI_inc]
        rw [lkF_s] at kk
        first
          | (have h0 : (lkF P s p).2 < wO P s p := (nI_ltI (by omega) (by omega)).mp (Int32.not_le.mp c24)
             rw [if_pos h0] at kk
             exact kk)
          | (have h0 : ¬ (lkF P s p).2 < wO P s p := fun q => absurd (nI_lt q (by omega)) (Int32.not_lt.mpr c24)
             rw [if_neg h0] at kk
             exact kk)
          | fail "no way"
      · skip
        refine g_aload_n dX0_likeliestPlayer_27 rfl ?_
        refine g_iload_n dX0_likeliestPlayer_28 rfl ?_
        refine g_callVi dX0_likeliestPlayer_29 ln_X0_103 ⟨_, rfl⟩ rfl (by decide) ⟨_, _, rfl⟩ rfl (Nat.le_of_ble_eq_true rfl) (Nat.le_of_ble_eq_true rfl) (ct_weightOut hP hO hB hp) rfl (fun r29 m29 h29 => ?_)
        obtain ⟨rfl, rfl⟩ := h29
        refine g_istore_n dX0_likeliestPlayer_32 (by decide) ?_
        show Go _ _ _ _ _ _ [_, _, _, _] _ _ _
        refine g_iload_n dX0_likeliestPlayer_33 rfl ?_
        refine g_istore_n dX0_likeliestPlayer_34 (by decide) ?_
        show Go _ _ _ _ _ _ [_, _, _, _] _ _ _
        refine g_iinc dX0_likeliestPlayer_35 rfl (by decide) ?_
        show Go _ _ _ _ _ _ [_, _, _, _] _ _ _
        refine g_goto (tgt := 7) dX0_likeliestPlayer_38 (by decide) ?_
        rw [nI_inc]
        rw [lkF_s] at kk
        first
          | (have h0 : (lkF P s p).2 < wO P s p := (nI_ltI (by omega) (by omega)).mp (Int32.not_le.mp c24)
             rw [if_pos h0] at kk
             exact kk)
          | (have h0 : ¬ (lkF P s p).2 < wO P s p := fun q => absurd (nI_lt q (by omega)) (Int32.not_lt.mpr c24)
             rw [if_neg h0] at kk
             exact kk)
          | fail "no way"
  · skip
    refine g_iload_n dX0_likeliestPlayer_7 rfl ?_
    refine g_aload_n dX0_likeliestPlayer_8 rfl ?_
    refine t_getR dX0_likeliestPlayer_9 fl_X0_21 rfl (by decide) rfl (by decide) rfl ?_
    refine t_getI dX0_likeliestPlayer_12 fl_X0_54 rfl (by decide) rfl (by decide) ?_
    rw [hP.1]
    refine g_icmp_ge (tgt := 41) dX0_likeliestPlayer_15 (by decide) (fun c15 => ?_) (fun c15 => ?_)
    · skip
      refine g_iload_n dX0_likeliestPlayer_41 rfl ?_
      refine g_iret dX0_likeliestPlayer_42 (fun ty h => by cases h; rfl) ?_
      exact ⟨rfl, rfl⟩
    · exact absurd (Int32.le_refl _) c15
theorem ct_likeliestOut {P : Pce} {s : Evs} (hP : PcC P I) (hO : PcOK P) (hB : BelI P s (5 ^ P.1) I) {p : Nat} (hp : p < P.1) : Ct X (d + 2) 66 M_X0_likeliestOut 66 [.ref 36, .int (nI p)] (I, J, rf0) (RI (fun y9 m => y9 = zI ((loF P s p 5 : Int) - 2) ∧ m = (I, J, rf0))) := by
  have h4 := hO.1
  show Go _ _ _ _ _ _ [_, _, _, _] _ _ _
  refine g_bipush (v := -2) dX0_likeliestOut_0 (by decide) ?_
  refine g_istore_n dX0_likeliestOut_2 (by decide) ?_
  show Go _ _ _ _ _ _ [_, _, _, _] _ _ _
  refine g_bipush (v := -2) dX0_likeliestOut_3 (by decide) ?_
  refine g_istore_n dX0_likeliestOut_5 (by decide) ?_
  show Go _ _ _ _ _ _ [_, _, _, _] _ _ _
  refine go_ix 5 (fun e => Go X (d + 2) 66 M_X0_likeliestOut 66 6 [.ref 36, .int (nI p), .int (zI ((loF P s p e : Int) - 2)), .int (zI ((e : Int) - 2))] [] (I, J, rf0) (RI (fun y9 m => y9 = zI ((loF P s p 5 : Int) - 2) ∧ m = (I, J, rf0)))) (fun e he kk => ?_) ?_
  · have hlo := loF_lt P s p e (by omega)
    have ha := wAt_lt hO s p e
    have hb := wAt_lt hO s p (loF P s p e)
    refine g_iload_n dX0_likeliestOut_6 rfl ?_
    refine g_iconst (v := 2) dX0_likeliestOut_7 (by decide) ?_
    refine g_icmp_gt (tgt := 38) dX0_likeliestOut_8 (by decide) (fun c8 => ?_) (fun c8 => ?_)
    · exact absurd c8 (by rw [show (2 : Int32) = zI 2 from rfl, z_lt (by omega) (by omega)]; omega)
    · skip
      refine g_iload_n dX0_likeliestOut_11 rfl ?_
      refine g_if_eq (tgt := 32) dX0_likeliestOut_12 (by decide) (fun c12 => ?_) (fun c12 => ?_)
      · skip
        refine g_iinc dX0_likeliestOut_32 rfl (by decide) ?_
        show Go _ _ _ _ _ _ [_, _, _, _] _ _ _
        refine g_goto (tgt := 6) dX0_likeliestOut_35 (by decide) ?_
        rw [ze_inc]
        rw [loF_s] at kk
        first
          | (have h0 : e = 2 := (ze_0 (by omega)).mp c12
             rw [if_neg (fun q => q.1 h0)] at kk
             exact kk)
          | (have h0 : ¬ smF (wE P s p (loF P s p e)) (5 ^ P.1) < smF (wE P s p e) (5 ^ P.1) := fun q => absurd (nI_lt q (by omega)) (Int32.not_lt.mpr c27)
             rw [if_neg (fun q => h0 q.2)] at kk
             exact kk)
          | (have h0 : smF (wE P s p (loF P s p e)) (5 ^ P.1) < smF (wE P s p e) (5 ^ P.1) := (nI_ltI (by omega) (by omega)).mp (Int32.not_le.mp c27)
             rw [if_pos ⟨fun q => c12 ((ze_0 (by omega)).mpr q), h0⟩] at kk
             exact kk)
          | fail "no way"
      · skip
        refine g_aload_n dX0_likeliestOut_15 rfl ?_
        refine g_iload_n dX0_likeliestOut_16 rfl ?_
        refine g_iload_n dX0_likeliestOut_17 rfl ?_
        refine g_callVi dX0_likeliestOut_18 ln_X0_99 ⟨_, rfl⟩ rfl (by decide) ⟨_, _, rfl⟩ rfl (Nat.le_of_ble_eq_true rfl) (Nat.le_of_ble_eq_true rfl) (ct_weightAt (e := e) hP hO hB hp he) rfl (fun r18 m18 h18 => ?_)
        obtain ⟨rfl, rfl⟩ := h18
        refine g_aload_n dX0_likeliestOut_21 rfl ?_
        refine g_iload_n dX0_likeliestOut_22 rfl ?_
        refine g_iload_n dX0_likeliestOut_23 rfl ?_
        refine g_callVi dX0_likeliestOut_24 ln_X0_99 ⟨_, rfl⟩ rfl (by decide) ⟨_, _, rfl⟩ rfl (Nat.le_of_ble_eq_true rfl) (Nat.le_of_ble_eq_true rfl) (ct_weightAt (e := loF P s p e) hP hO hB hp hlo) rfl (fun r24 m24 h24 => ?_)
        obtain ⟨rfl, rfl⟩ := h24
        refine g_icmp_le (tgt := 32) dX0_likeliestOut_27 (by decide) (fun c27 => ?_) (fun c27 => ?_)
        · skip
          refine g_iinc dX0_likeliestOut_32 rfl (by decide) ?_
          show Go _ _ _ _ _ _ [_, _, _, _] _ _ _
          refine g_goto (tgt := 6) dX0_likeliestOut_35 (by decide) ?_
          rw [ze_inc]
          rw [loF_s] at kk
          first
            | (have h0 : e = 2 := (ze_0 (by omega)).mp c12
               rw [if_neg (fun q => q.1 h0)] at kk
               exact kk)
            | (have h0 : ¬ smF (wE P s p (loF P s p e)) (5 ^ P.1) < smF (wE P s p e) (5 ^ P.1) := fun q => absurd (nI_lt q (by omega)) (Int32.not_lt.mpr c27)
               rw [if_neg (fun q => h0 q.2)] at kk
               exact kk)
            | (have h0 : smF (wE P s p (loF P s p e)) (5 ^ P.1) < smF (wE P s p e) (5 ^ P.1) := (nI_ltI (by omega) (by omega)).mp (Int32.not_le.mp c27)
               rw [if_pos ⟨fun q => c12 ((ze_0 (by omega)).mpr q), h0⟩] at kk
               exact kk)
            | fail "no way"
        · skip
          refine g_iload_n dX0_likeliestOut_30 rfl ?_
          refine g_istore_n dX0_likeliestOut_31 (by decide) ?_
          show Go _ _ _ _ _ _ [_, _, _, _] _ _ _
          refine g_iinc dX0_likeliestOut_32 rfl (by decide) ?_
          show Go _ _ _ _ _ _ [_, _, _, _] _ _ _
          refine g_goto (tgt := 6) dX0_likeliestOut_35 (by decide) ?_
          rw [ze_inc]
          rw [loF_s] at kk
          first
            | (have h0 : e = 2 := (ze_0 (by omega)).mp c12
               rw [if_neg (fun q => q.1 h0)] at kk
               exact kk)
            | (have h0 : ¬ smF (wE P s p (loF P s p e)) (5 ^ P.1) < smF (wE P s p e) (5 ^ P.1) := fun q => absurd (nI_lt q (by omega)) (Int32.not_lt.mpr c27)
               rw [if_neg (fun q => h0 q.2)] at kk
               exact kk)
            | (have h0 : smF (wE P s p (loF P s p e)) (5 ^ P.1) < smF (wE P s p e) (5 ^ P.1) := (nI_ltI (by omega) (by omega)).mp (Int32.not_le.mp c27)
               rw [if_pos ⟨fun q => c12 ((ze_0 (by omega)).mpr q), h0⟩] at kk
               exact kk)
            | fail "no way"
  · skip
    refine g_iload_n dX0_likeliestOut_6 rfl ?_
    refine g_iconst (v := 2) dX0_likeliestOut_7 (by decide) ?_
    refine g_icmp_gt (tgt := 38) dX0_likeliestOut_8 (by decide) (fun c8 => ?_) (fun c8 => ?_)
    · skip
      refine g_iload_n dX0_likeliestOut_38 rfl ?_
      refine g_iret dX0_likeliestOut_39 (fun ty h => by cases h; rfl) ?_
      exact ⟨rfl, rfl⟩
    · exact absurd (by decide) c8
theorem ct_gcd {a b : Nat} (ha : a < 262144) (hb : b < 262144) : Ct X d 66 M_X10_greatestDivisor 66 [.int (nI a), .int (nI b)] (I, J, rf0) (RI (fun y9 m => y9 = nI (Nat.gcd a b) ∧ m = (I, J, rf0))) := by
  show Go _ _ _ _ _ _ [_, _, _, _, _, _] _ _ _
  refine g_iload_n dX10_greatestDivisor_0 rfl ?_
  refine g_istore_n dX10_greatestDivisor_1 (by decide) ?_
  show Go _ _ _ _ _ _ [_, _, _, _, _, _] _ _ _
  refine g_iload_n dX10_greatestDivisor_2 rfl ?_
  refine g_istore_n dX10_greatestDivisor_3 (by decide) ?_
  show Go _ _ _ _ _ _ [_, _, _, _, _, _] _ _ _
  refine g_iconst (v := 0) dX10_greatestDivisor_4 (by decide) ?_
  refine g_istore dX10_greatestDivisor_5 (by decide) ?_
  show Go _ _ _ _ _ _ [_, _, _, _, _, _] _ _ _
  refine go_rec (σ := Nat × Nat) (fun n q => ∀ x y t, q = (x, y) → t + n = 64 → x < 262144 → y < 262144 → Nat.gcd x y = Nat.gcd a b → (∃ k, (y < 2 ^ k ∧ 2 * k ≤ n) ∨ (x < 2 ^ k ∧ y < x ∧ 2 * k ≤ n + 1)) → Go X d 66 M_X10_greatestDivisor 66 7 [.int (nI a), .int (nI b), .int (nI x), .int (nI y), .int (nI t), .null] [] (I, J, rf0) (RI (fun y9 m => y9 = nI (Nat.gcd a b) ∧ m = (I, J, rf0)))) (fun n kk q x y t hq ht hx hy hg hk => ?_) (fun q x y t hq ht hx hy hg hk => ?_) 64 (a, b) a b 0 rfl rfl ha hb rfl ⟨18, Or.inl ⟨hb, by decide⟩⟩
  · skip
    refine g_iload dX10_greatestDivisor_7 rfl ?_
    refine g_bipush (v := 64) dX10_greatestDivisor_9 (by decide) ?_
    refine g_icmp_ge (tgt := 34) dX10_greatestDivisor_11 (by decide) (fun c11 => ?_) (fun c11 => ?_)
    · exact absurd (nI_lt (show t < 64 by omega) (by decide)) (Int32.not_lt.mpr c11)
    · skip
      refine g_iload_n dX10_greatestDivisor_14 rfl ?_
      refine g_if_le (tgt := 34) dX10_greatestDivisor_15 (by decide) (fun c15 => ?_) (fun c15 => ?_)
      · skip
        refine g_iload_n dX10_greatestDivisor_34 rfl ?_
        refine g_iret dX10_greatestDivisor_35 (fun ty h => by cases h; rfl) ?_
        refine ⟨?_, rfl⟩
        first
          | (have h0 : y = 0 := by
               have := (nI_leI (b := 0) (by omega) (by decide)).mp c15
               omega
             rw [← hg, h0, Nat.gcd_zero_right])
          | (have h0 : y = 0 := by
               obtain ⟨k, hk | hk⟩ := hk
               · have e : k = 0 := by omega
                 have := hk.1
                 rw [e, Nat.pow_zero] at this; omega
               · have e : k = 0 := by omega
                 have := hk.1
                 rw [e, Nat.pow_zero] at this; omega
             rw [← hg, h0, Nat.gcd_zero_right])
          | fail "no way"
      · skip
        have hy0 : 0 < y := by
          rcases Nat.eq_zero_or_pos y with q | q
          · exact absurd (by rw [q]; decide) c15
          · exact q
        refine g_iload_n dX10_greatestDivisor_18 rfl ?_
        refine g_iload_n dX10_greatestDivisor_19 rfl ?_
        refine g_irem dX10_greatestDivisor_20 (fun q => by have := (nI_eq (by omega) (by decide)).mp (show nI y = nI 0 from q); omega) ?_
        rw [pk_rem (by omega) hy0 (by omega)]
        refine g_istore dX10_greatestDivisor_21 (by decide) ?_
        show Go _ _ _ _ _ _ [_, _, _, _, _, _] _ _ _
        refine g_iload_n dX10_greatestDivisor_23 rfl ?_
        refine g_istore_n dX10_greatestDivisor_24 (by decide) ?_
        show Go _ _ _ _ _ _ [_, _, _, _, _, _] _ _ _
        refine g_iload dX10_greatestDivisor_25 rfl ?_
        refine g_istore_n dX10_greatestDivisor_27 (by decide) ?_
        show Go _ _ _ _ _ _ [_, _, _, _, _, _] _ _ _
        refine g_iinc dX10_greatestDivisor_28 rfl (by decide) ?_
        show Go _ _ _ _ _ _ [_, _, _, _, _, _] _ _ _
        refine g_goto (tgt := 7) dX10_greatestDivisor_31 (by decide) ?_
        refine g_forget 5 ?_
        show Go _ _ _ _ _ _ [_, _, _, _, _, _] _ _ _
        rw [nI_inc]
        have hm := Nat.mod_lt x hy0
        have hml := Nat.mod_le x y
        refine kk (y, x % y) y (x % y) (t + 1) rfl (by omega) (by omega) (by omega) (by rw [Nat.gcd_comm, ← Nat.gcd_rec, Nat.gcd_comm]; exact hg) ?_
        obtain ⟨k, hk | hk⟩ := hk
        · exact ⟨k, Or.inr ⟨hk.1, hm, by omega⟩⟩
        · cases k with
          | zero => have := hk.1; rw [Nat.pow_zero] at this; omega
          | succ k =>
            refine ⟨k, Or.inl ⟨?_, by omega⟩⟩
            have h1 : x % y ≤ x - y := by
              rw [Nat.mod_eq_sub_mod (by omega)]
              exact Nat.mod_le _ _
            have h2 := hk.1
            rw [Nat.pow_succ] at h2
            omega
  · skip
    refine g_iload dX10_greatestDivisor_7 rfl ?_
    refine g_bipush (v := 64) dX10_greatestDivisor_9 (by decide) ?_
    refine g_icmp_ge (tgt := 34) dX10_greatestDivisor_11 (by decide) (fun c11 => ?_) (fun c11 => ?_)
    · skip
      refine g_iload_n dX10_greatestDivisor_34 rfl ?_
      refine g_iret dX10_greatestDivisor_35 (fun ty h => by cases h; rfl) ?_
      refine ⟨?_, rfl⟩
      first
        | (have h0 : y = 0 := by
             have := (nI_leI (b := 0) (by omega) (by decide)).mp c15
             omega
           rw [← hg, h0, Nat.gcd_zero_right])
        | (have h0 : y = 0 := by
             obtain ⟨k, hk | hk⟩ := hk
             · have e : k = 0 := by omega
               have := hk.1
               rw [e, Nat.pow_zero] at this; omega
             · have e : k = 0 := by omega
               have := hk.1
               rw [e, Nat.pow_zero] at this; omega
           rw [← hg, h0, Nat.gcd_zero_right])
        | fail "no way"
    · exact absurd (nI_le (show 64 ≤ t by omega) (by omega)) c11
theorem ct_tellChance {a b : Nat} (ha : a < 262144) (hb : b < 262144) (hb0 : 0 < b) : Ct X (d + 1) 66 M_X10_tellChance 66 [.ref 0, .int (nI a), .int (nI b)] (I, J, rf0) (RV (fun m => ∃ J', m = (I, J', rf0) ∧ J' 0 12 = (chS a b).1 ∧ J' 0 13 = (chS a b).2 ∧ J' 48 = J 48)) := by
  have hg0 : 0 < Nat.gcd a b := Nat.gcd_pos_of_pos_right a hb0
  have hg1 : Nat.gcd a b ≤ b := Nat.gcd_le_right a hb0
  have hgn : ¬ nI (Nat.gcd a b) = 0 := nI_ne0 hg0 (by omega)
  have hd1 : a / Nat.gcd a b ≤ a := Nat.div_le_self _ _
  have hd2 : b / Nat.gcd a b ≤ b := Nat.div_le_self _ _
  show Go _ _ _ _ _ _ [_, _, _, _] _ _ _
  refine g_iload_n dX10_tellChance_0 rfl ?_
  refine g_iload_n dX10_tellChance_1 rfl ?_
  refine g_callSi dX10_tellChance_2 ln_X10_360 ⟨_, rfl⟩ rfl (Nat.le_of_ble_eq_true rfl) (Nat.le_of_ble_eq_true rfl) (ct_gcd ha hb) rfl (fun r2 m2 h2 => ?_)
  obtain ⟨rfl, rfl⟩ := h2
  refine g_istore_n dX10_tellChance_5 (by decide) ?_
  show Go _ _ _ _ _ _ [_, _, _, _] _ _ _
  refine g_iload_n dX10_tellChance_6 rfl ?_
  refine g_if_ne (tgt := 11) dX10_tellChance_7 (by decide) (fun c7 => ?_) (fun c7 => ?_)
  · skip
    refine g_aload_n dX10_tellChance_11 rfl ?_
    refine g_iload_n dX10_tellChance_12 rfl ?_
    refine g_iload_n dX10_tellChance_13 rfl ?_
    refine g_idiv dX10_tellChance_14 hgn ?_
    rw [pk_div (by omega) hg0 (by omega)]
    refine g_i2l dX10_tellChance_15 ?_
    rw [nI_l (by omega)]
    refine t_putJ dX10_tellChance_16 fl_X10_340 rfl (by decide) rfl (by decide) ?_
    refine g_aload_n dX10_tellChance_19 rfl ?_
    refine g_iload_n dX10_tellChance_20 rfl ?_
    refine g_iload_n dX10_tellChance_21 rfl ?_
    refine g_idiv dX10_tellChance_22 hgn ?_
    rw [pk_div (by omega) hg0 (by omega)]
    refine g_i2l dX10_tellChance_23 ?_
    rw [nI_l (by omega)]
    refine t_putJ dX10_tellChance_24 fl_X10_82 rfl (by decide) rfl (by decide) ?_
    refine g_vret dX10_tellChance_27 ?_
    exact ⟨_, rfl, by rw [upR_s, pk_uLn (by decide), upR_s, pk_uLs]; rfl, by rw [upR_s, pk_uLs]; rfl, by rw [upR_n (by decide), upR_n (by decide)]⟩
  · exact absurd c7 hgn
theorem PcC.scr {P : Pce} {I' : Nat → Nat → Int32} (h : PcC P I) (hf : Fr [36, 37, 38, 39] I I') : PcC P I' := h.keep (by rw [hf 22 (by decide)]) (by rw [hf 22 (by decide)]) (hf 23 (by decide)) (hf 24 (by decide))
theorem EsC.scr {s : Evs} {I' : Nat → Nat → Int32} (h : EsC s I) (hf : Fr [36, 37, 38, 39] I I') : EsC s I' := ⟨by rw [hf 25 (by decide)]; exact h.1, by rw [hf 25 (by decide)]; exact h.2.1, h.2.2.1.keep (hf 28 (by decide)), fun x a b => by rw [hf 26 (by decide)]; exact h.2.2.2 x a b⟩
theorem OuR1 {p : Nat} {z : Int} (hz : -2 ≤ z ∧ z ≤ 2) : OuR (upR (fun _ => 0) p z) := fun q _ => by
  by_cases e : q = p
  · subst e; rw [upR_s]; exact hz
  · rw [upR_n e]; exact ⟨show (-2 : Int) ≤ 0 by decide, show (0 : Int) ≤ 2 by decide⟩
theorem z2_inc (j : Nat) : zI (2 * (j : Int) - 1) + Int32.ofInt 2 = zI (2 * ((j + 1 : Nat) : Int) - 1) := by
  rw [show Int32.ofInt 2 = zI 2 from rfl, z_add]
  congr 1
  omega
theorem ct_countSlips {P : Pce} {s : Evs} (hP : PcC P I) (hO : PcOK P) (hE : EsC s I) (hR : EvR s) (hP2 : EvP P s) {x : Nat} (h1 : s.2.1 ≤ x) (h2 : x < s.1) : Ct X (d + 4) 66 M_X0_countSlipsAhead 66 [.ref 36, .int (nI x)] (I, J, rf0) (RI (fun y9 m => ∃ I', m = (I', J, rf0) ∧ Fr [37] I I' ∧ y9 = nI (heN P s x P.1))) := by
  have h4 := hO.1
  have hr14 := hR.1
  show Go _ _ _ _ _ _ [_, _, _, _, _] _ _ _
  refine g_aload_n dX0_countSlipsAhead_0 rfl ?_
  refine t_getR dX0_countSlipsAhead_1 fl_X0_9 rfl (by decide) rfl (by decide) rfl ?_
  refine g_iconst (v := 0) dX0_countSlipsAhead_4 (by decide) ?_
  refine g_callSv dX0_countSlipsAhead_5 ln_X0_48 rfl rfl (Nat.le_of_ble_eq_true rfl) (Nat.le_of_ble_eq_true rfl) (ct_fill0 (N := 66) (a := 37) (n := 4) rfl (by decide) (by decide)) rfl (fun m5 h5 => ?_)
  obtain ⟨g, rfl, hg, -⟩ := h5
  have hf1 : Fr [36, 37, 38, 39] I (upR I 37 g) := Fr.rf.up (by decide)
  refine g_aload_n dX0_countSlipsAhead_8 rfl ?_
  refine g_aload_n dX0_countSlipsAhead_9 rfl ?_
  refine t_getR dX0_countSlipsAhead_10 fl_X0_25 rfl (by decide) rfl (by decide) rfl ?_
  refine t_getI dX0_countSlipsAhead_13 fl_X0_67 rfl (by decide) rfl (by decide) ?_
  rw [upR_n (a := 25) (by decide), hE.2.1]
  refine g_iload_n dX0_countSlipsAhead_16 rfl ?_
  refine g_callVi dX0_countSlipsAhead_17 ln_X0_75 ⟨_, rfl⟩ rfl (by decide) ⟨_, _, rfl⟩ rfl (Nat.le_of_ble_eq_true rfl) (Nat.le_of_ble_eq_true rfl) (ct_agrees (o := (fun _ => 0 : Nat → Int)) (a := s.2.1) (b := x) (hP.scr hf1) hO (hE.scr hf1) hR hP2 OuR0 (fun p hp => by rw [upR_s, hg p hp]; rfl) (Nat.le_refl _) (by omega) h1) rfl (fun r17 m17 h17 => ?_)
  obtain ⟨rfl, rfl⟩ := h17
  refine g_if_ne (tgt := 25) dX0_countSlipsAhead_20 (by decide) (fun c20 => ?_) (fun c20 => ?_)
  · skip
    refine g_iconst (v := 0) dX0_countSlipsAhead_25 (by decide) ?_
    refine g_istore_n dX0_countSlipsAhead_26 (by decide) ?_
    show Go _ _ _ _ _ _ [_, _, _, _, _] _ _ _
    refine g_iconst (v := 0) dX0_countSlipsAhead_27 (by decide) ?_
    refine g_istore_n dX0_countSlipsAhead_28 (by decide) ?_
    show Go _ _ _ _ _ _ [_, _, _, _, _] _ _ _
    refine go_mem (fun p I5 => Fr [37] I I5 ∧ ∀ q, q < 4 → I5 37 q = 0) P.1 (fun p I5 => Go X (d + 4) 66 M_X0_countSlipsAhead 66 29 [.ref 36, .int (nI x), .int (nI (heN P s x p)), .int (nI p), .null] [] (I5, J, rf0) (RI (fun y9 m => ∃ I', m = (I', J, rf0) ∧ Fr [37] I I' ∧ y9 = nI (heN P s x P.1)))) (fun p I5 hp h9 kk => ?_) (fun I5 h9 => ?_) _ ⟨Fr.rf.up (by decide), fun q hq => by rw [upR_s]; exact hg q hq⟩
    · skip
      refine g_iload_n dX0_countSlipsAhead_29 rfl ?_
      refine g_aload_n dX0_countSlipsAhead_30 rfl ?_
      refine t_getR dX0_countSlipsAhead_31 fl_X0_21 rfl (by decide) rfl (by decide) rfl ?_
      refine t_getI dX0_countSlipsAhead_34 fl_X0_54 rfl (by decide) rfl (by decide) ?_
      rw [h9.1 22 (by decide), hP.1]
      refine g_icmp_ge (tgt := 94) dX0_countSlipsAhead_37 (by decide) (fun c37 => ?_) (fun c37 => ?_)
      · exact absurd (nI_lt hp (by omega)) (Int32.not_lt.mpr c37)
      · skip
        refine g_iconst (v := -1) dX0_countSlipsAhead_40 (by decide) ?_
        refine g_istore dX0_countSlipsAhead_41 (by decide) ?_
        show Go _ _ _ _ _ _ [_, _, _, _, _] _ _ _
        refine go_mem (fun j I6 => Fr [37] I I6 ∧ ∀ q, q < 4 → q ≠ p → I6 37 q = 0) 2 (fun j I6 => Go X (d + 4) 66 M_X0_countSlipsAhead 66 43 [.ref 36, .int (nI x), .int (nI (heN P s x p + hzN P s x p j)), .int (nI p), .int (zI (2 * (j : Int) - 1))] [] (I6, J, rf0) (RI (fun y9 m => ∃ I', m = (I', J, rf0) ∧ Fr [37] I I' ∧ y9 = nI (heN P s x P.1)))) (fun j I6 hj h6 kk2 => ?_) (fun I6 h6 => ?_) _ ⟨h9.1, fun q hq _ => h9.2 q hq⟩
        · skip
          refine g_iload dX0_countSlipsAhead_43 rfl ?_
          refine g_iconst (v := 1) dX0_countSlipsAhead_45 (by decide) ?_
          refine g_icmp_gt (tgt := 81) dX0_countSlipsAhead_46 (by decide) (fun c46 => ?_) (fun c46 => ?_)
          · exact absurd c46 (by rw [show (1 : Int32) = zI 1 from rfl, z_lt (by omega) (by omega)]; omega)
          · skip
            refine g_aload_n dX0_countSlipsAhead_49 rfl ?_
            refine t_getR dX0_countSlipsAhead_50 fl_X0_9 rfl (by decide) rfl (by decide) rfl ?_
            refine g_iload_n dX0_countSlipsAhead_53 rfl ?_
            refine g_iload dX0_countSlipsAhead_54 rfl ?_
            refine t_iast dX0_countSlipsAhead_56 rfl (by decide) (in_nI (by omega) (by decide)) ?_
            rw [cl_nI (by omega)]
            have hf5 : Fr [36, 37, 38, 39] I (upR I6 37 (upd (I6 37) p (zI (2 * (j : Int) - 1)))) := (h6.1.mono (by decide)).up (by decide)
            have ho5 : OuV 37 (upR (fun _ => 0 : Nat → Int) p (2 * (j : Int) - 1)) (upR I6 37 (upd (I6 37) p (zI (2 * (j : Int) - 1)))) := fun q hq => by
              rw [upR_s]
              by_cases e : q = p
              · rw [e, pk_us, upR_s]
              · rw [pk_un e, upR_n e]; exact h6.2 q hq e
            refine g_aload_n dX0_countSlipsAhead_57 rfl ?_
            refine g_iload_n dX0_countSlipsAhead_58 rfl ?_
            refine g_aload_n dX0_countSlipsAhead_59 rfl ?_
            refine t_getR dX0_countSlipsAhead_60 fl_X0_25 rfl (by decide) rfl (by decide) rfl ?_
            refine t_getI dX0_countSlipsAhead_63 fl_X0_72 rfl (by decide) rfl (by decide) ?_
            rw [hf5 25 (by decide), hE.1]
            refine g_callVi dX0_countSlipsAhead_66 ln_X0_75 ⟨_, rfl⟩ rfl (by decide) ⟨_, _, rfl⟩ rfl (Nat.le_of_ble_eq_true rfl) (Nat.le_of_ble_eq_true rfl) (ct_agrees (o := upR (fun _ => 0 : Nat → Int) p (2 * (j : Int) - 1)) (a := x) (b := s.1) (hP.scr hf5) hO (hE.scr hf5) hR hP2 (OuR1 (by omega)) ho5 h1 (Nat.le_refl _) (by omega)) rfl (fun r66 m66 h66 => ?_)
            obtain ⟨rfl, rfl⟩ := h66
            refine g_if_eq (tgt := 75) dX0_countSlipsAhead_69 (by decide) (fun c69 => ?_) (fun c69 => ?_)
            · skip
              refine g_iinc dX0_countSlipsAhead_75 rfl (by decide) ?_
              show Go _ _ _ _ _ _ [_, _, _, _, _] _ _ _
              refine g_goto (tgt := 43) dX0_countSlipsAhead_78 (by decide) ?_
              rw [z2_inc]
              have e9 : heN P s x p + hzN P s x p (j + 1) = heN P s x p + hzN P s x p j + b2 (bgB P s x p (2 * (j : Int) - 1)) := by
                show heN P s x p + (hzN P s x p j + b2 (bgB P s x p (2 * (j : Int) - 1))) = _
                omega
              rw [e9] at kk2
              have hh : bgB P s x p (2 * (j : Int) - 1) = agB P s (upR (fun _ => 0) p (2 * (j : Int) - 1)) x s.1 := by unfold bgB; rw [bI_ne c20]; rfl
              rw [hh] at kk2
              first
                | (rw [bI_ne c69] at kk2
                   rw [nI_inc]
                   exact kk2 _ ⟨h6.1.up (by decide), fun q hq e => by rw [upR_s, pk_un e]; exact h6.2 q hq e⟩)
                | (rw [bI_eq c69] at kk2
                   exact kk2 _ ⟨h6.1.up (by decide), fun q hq e => by rw [upR_s, pk_un e]; exact h6.2 q hq e⟩)
                | fail "no way"
            · skip
              refine g_iinc dX0_countSlipsAhead_72 rfl (by decide) ?_
              show Go _ _ _ _ _ _ [_, _, _, _, _] _ _ _
              refine g_iinc dX0_countSlipsAhead_75 rfl (by decide) ?_
              show Go _ _ _ _ _ _ [_, _, _, _, _] _ _ _
              refine g_goto (tgt := 43) dX0_countSlipsAhead_78 (by decide) ?_
              rw [z2_inc]
              have e9 : heN P s x p + hzN P s x p (j + 1) = heN P s x p + hzN P s x p j + b2 (bgB P s x p (2 * (j : Int) - 1)) := by
                show heN P s x p + (hzN P s x p j + b2 (bgB P s x p (2 * (j : Int) - 1))) = _
                omega
              rw [e9] at kk2
              have hh : bgB P s x p (2 * (j : Int) - 1) = agB P s (upR (fun _ => 0) p (2 * (j : Int) - 1)) x s.1 := by unfold bgB; rw [bI_ne c20]; rfl
              rw [hh] at kk2
              first
                | (rw [bI_ne c69] at kk2
                   rw [nI_inc]
                   exact kk2 _ ⟨h6.1.up (by decide), fun q hq e => by rw [upR_s, pk_un e]; exact h6.2 q hq e⟩)
                | (rw [bI_eq c69] at kk2
                   exact kk2 _ ⟨h6.1.up (by decide), fun q hq e => by rw [upR_s, pk_un e]; exact h6.2 q hq e⟩)
                | fail "no way"
        · skip
          refine g_iload dX0_countSlipsAhead_43 rfl ?_
          refine g_iconst (v := 1) dX0_countSlipsAhead_45 (by decide) ?_
          refine g_icmp_gt (tgt := 81) dX0_countSlipsAhead_46 (by decide) (fun c46 => ?_) (fun c46 => ?_)
          · skip
            refine g_aload_n dX0_countSlipsAhead_81 rfl ?_
            refine t_getR dX0_countSlipsAhead_82 fl_X0_9 rfl (by decide) rfl (by decide) rfl ?_
            refine g_iload_n dX0_countSlipsAhead_85 rfl ?_
            refine g_iconst (v := 0) dX0_countSlipsAhead_86 (by decide) ?_
            refine t_iast dX0_countSlipsAhead_87 rfl (by decide) (in_nI (by omega) (by decide)) ?_
            rw [cl_nI (by omega)]
            refine g_iinc dX0_countSlipsAhead_88 rfl (by decide) ?_
            show Go _ _ _ _ _ _ [_, _, _, _, _] _ _ _
            refine g_goto (tgt := 29) dX0_countSlipsAhead_91 (by decide) ?_
            refine g_forget 4 ?_
            show Go _ _ _ _ _ _ [_, _, _, _, _] _ _ _
            rw [nI_inc]
            exact kk _ ⟨h6.1.up (by decide), fun q hq => by
              rw [upR_s]
              by_cases e : q = p
              · rw [e, pk_us]
              · rw [pk_un e]; exact h6.2 q hq e⟩
          · exact absurd (by decide) c46
    · skip
      refine g_iload_n dX0_countSlipsAhead_29 rfl ?_
      refine g_aload_n dX0_countSlipsAhead_30 rfl ?_
      refine t_getR dX0_countSlipsAhead_31 fl_X0_21 rfl (by decide) rfl (by decide) rfl ?_
      refine t_getI dX0_countSlipsAhead_34 fl_X0_54 rfl (by decide) rfl (by decide) ?_
      rw [h9.1 22 (by decide), hP.1]
      refine g_icmp_ge (tgt := 94) dX0_countSlipsAhead_37 (by decide) (fun c37 => ?_) (fun c37 => ?_)
      · skip
        refine g_iload_n dX0_countSlipsAhead_94 rfl ?_
        refine g_iret dX0_countSlipsAhead_95 (fun ty h => by cases h; rfl) ?_
        exact ⟨I5, rfl, h9.1, rfl⟩
      · exact absurd (Int32.le_refl _) c37
  · skip
    refine g_iconst (v := 0) dX0_countSlipsAhead_23 (by decide) ?_
    refine g_iret dX0_countSlipsAhead_24 (fun ty h => by cases h; rfl) ?_
    refine ⟨_, rfl, Fr.rf.up (by decide), ?_⟩
    have e9 : heN P s x P.1 = 0 := smF_zero (fun p _ => smF_zero (fun j _ => by unfold bgB; rw [bI_eq c20]; rfl))
    rw [e9]; rfl
theorem hzN_le (P : Pce) (s : Evs) (x p : Nat) : hzN P s x p 2 ≤ 2 := by
  have := smF_le (f := fun j => b2 (bgB P s x p (2 * (j : Int) - 1))) (b := 1) (fun j => by unfold b2; split <;> omega) 2
  exact this
theorem heN_lt {P : Pce} (hO : PcOK P) (s : Evs) (x : Nat) : heN P s x P.1 < 2 ^ 31 := by
  have := smF_le (f := fun p => hzN P s x p 2) (b := 2) (fun p => hzN_le P s x p) P.1
  have := hO.1
  show smF (fun p => hzN P s x p 2) P.1 < 2 ^ 31
  omega
theorem ct_countBeg {P : Pce} {s : Evs} (hP : PcC P I) (hO : PcOK P) (hE : EsC s I) (hR : EvR s) (hP2 : EvP P s) : Ct X (d + 5) 66 M_X0_countBeginnings 66 [.ref 36] (I, J, rf0) (RI (fun y9 m => ∃ I', m = (I', J, rf0) ∧ Fr [36, 37] I I' ∧ y9 = nI (wyN P s (s.1 - s.2.1)) ∧ I' 36 11 = nI (bsN P s (s.1 - s.2.1)))) := by
  have h4 := hO.1
  have hr14 := hR.1
  have hr2 := hR.2.1
  show Go _ _ _ _ _ _ [_, _, _, _] _ _ _
  refine g_iconst (v := 0) dX0_countBeginnings_0 (by decide) ?_
  refine g_istore_n dX0_countBeginnings_1 (by decide) ?_
  show Go _ _ _ _ _ _ [_, _, _, _] _ _ _
  refine g_aload_n dX0_countBeginnings_2 rfl ?_
  refine g_iconst (v := 0) dX0_countBeginnings_3 (by decide) ?_
  refine t_putI dX0_countBeginnings_4 fl_X0_106 rfl (by decide) rfl (by decide) ?_
  refine g_aload_n dX0_countBeginnings_7 rfl ?_
  refine t_getR dX0_countBeginnings_8 fl_X0_25 rfl (by decide) rfl (by decide) rfl ?_
  refine t_getI dX0_countBeginnings_11 fl_X0_67 rfl (by decide) rfl (by decide) ?_
  rw [upR_n (a := 25) (by decide), hE.2.1]
  refine g_istore_n dX0_countBeginnings_14 (by decide) ?_
  show Go _ _ _ _ _ _ [_, _, _, _] _ _ _
  refine go_mem (fun i I5 => Fr [36, 37] I I5 ∧ I5 36 11 = nI (bsN P s i)) (s.1 - s.2.1) (fun i I5 => Go X (d + 5) 66 M_X0_countBeginnings 66 15 [.ref 36, .int (nI (wyN P s i)), .int (nI (s.2.1 + i)), .null] [] (I5, J, rf0) (RI (fun y9 m => ∃ I', m = (I', J, rf0) ∧ Fr [36, 37] I I' ∧ y9 = nI (wyN P s (s.1 - s.2.1)) ∧ I' 36 11 = nI (bsN P s (s.1 - s.2.1))))) (fun i I5 hi h9 kk => ?_) (fun I5 h9 => ?_) _ ⟨Fr.rf.up (by decide), by rw [upR_s, pk_us]; rfl⟩
  · skip
    refine g_iload_n dX0_countBeginnings_15 rfl ?_
    refine g_aload_n dX0_countBeginnings_16 rfl ?_
    refine t_getR dX0_countBeginnings_17 fl_X0_25 rfl (by decide) rfl (by decide) rfl ?_
    refine t_getI dX0_countBeginnings_20 fl_X0_72 rfl (by decide) rfl (by decide) ?_
    rw [h9.1 25 (by decide), hE.1]
    refine g_icmp_ge (tgt := 58) dX0_countBeginnings_23 (by decide) (fun c23 => ?_) (fun c23 => ?_)
    · exact absurd (nI_lt (show s.2.1 + i < s.1 by omega) (by omega)) (Int32.not_lt.mpr c23)
    · skip
      refine g_aload_n dX0_countBeginnings_26 rfl ?_
      refine g_iload_n dX0_countBeginnings_27 rfl ?_
      refine g_callVi dX0_countBeginnings_28 ln_X0_109 ⟨_, rfl⟩ rfl (by decide) ⟨_, _, rfl⟩ rfl (Nat.le_of_ble_eq_true rfl) (Nat.le_of_ble_eq_true rfl) (ct_countSlips (x := s.2.1 + i) (hP.scr (h9.1.mono (by decide))) hO (hE.scr (h9.1.mono (by decide))) hR hP2 (by omega) (by omega)) rfl (fun r28 m28 h28 => ?_)
      obtain ⟨I6, rfl, hf6, rfl⟩ := h28
      have hh16 : heN P s (s.2.1 + i) P.1 < 2 ^ 31 := heN_lt hO _ _
      refine g_istore_n dX0_countBeginnings_31 (by decide) ?_
      show Go _ _ _ _ _ _ [_, _, _, _] _ _ _
      refine g_iload_n dX0_countBeginnings_32 rfl ?_
      refine g_if_le (tgt := 48) dX0_countBeginnings_33 (by decide) (fun c33 => ?_) (fun c33 => ?_)
      · skip
        refine g_abs (fun I7 => Fr [36, 37] I I7 ∧ I7 36 11 = nI (bsN P s (i + 1))) (by
          show _ ∧ _ = nI (if 0 < heN P s (s.2.1 + i) P.1 then bsN P s i ||| 2 ^ (s.2.1 + i) else bsN P s i)
          first
            | (have h0 : ¬ 0 < heN P s (s.2.1 + i) P.1 := fun q => absurd c33 (nI_nle q hh16)
               rw [if_neg h0]
               exact ⟨h9.1.trans (hf6.mono (by decide)), by rw [hf6 36 (by decide)]; exact h9.2⟩)
            | (have h0 : 0 < heN P s (s.2.1 + i) P.1 := Nat.pos_of_ne_zero (fun q => c33 (by rw [q]; decide))
               rw [if_pos h0]
               exact ⟨(h9.1.trans (hf6.mono (by decide))).up (by decide), by rw [upR_s, pk_us]⟩)) (fun I7 h7 => ?_)
        refine g_iload_n dX0_countBeginnings_48 rfl ?_
        refine g_iload_n dX0_countBeginnings_49 rfl ?_
        refine g_iadd dX0_countBeginnings_50 ?_
        rw [nI_add]
        refine g_istore_n dX0_countBeginnings_51 (by decide) ?_
        show Go _ _ _ _ _ _ [_, _, _, _] _ _ _
        refine g_iinc dX0_countBeginnings_52 rfl (by decide) ?_
        show Go _ _ _ _ _ _ [_, _, _, _] _ _ _
        refine g_goto (tgt := 15) dX0_countBeginnings_55 (by decide) ?_
        refine g_forget 3 ?_
        show Go _ _ _ _ _ _ [_, _, _, _] _ _ _
        rw [nI_inc, Nat.add_assoc]
        exact kk _ h7
      · skip
        refine g_aload_n dX0_countBeginnings_36 rfl ?_
        refine g_dup dX0_countBeginnings_37 rfl ?_
        refine t_getI dX0_countBeginnings_38 fl_X0_106 rfl (by decide) rfl (by decide) ?_
        rw [hf6 36 (by decide), h9.2]
        refine g_iconst (v := 1) dX0_countBeginnings_41 (by decide) ?_
        refine g_iload_n dX0_countBeginnings_42 rfl ?_
        refine g_ishl dX0_countBeginnings_43 ?_
        refine g_ior dX0_countBeginnings_44 ?_
        rw [orbit (by omega)]
        refine t_putI dX0_countBeginnings_45 fl_X0_106 rfl (by decide) rfl (by decide) ?_
        refine g_abs (fun I7 => Fr [36, 37] I I7 ∧ I7 36 11 = nI (bsN P s (i + 1))) (by
          show _ ∧ _ = nI (if 0 < heN P s (s.2.1 + i) P.1 then bsN P s i ||| 2 ^ (s.2.1 + i) else bsN P s i)
          first
            | (have h0 : ¬ 0 < heN P s (s.2.1 + i) P.1 := fun q => absurd c33 (nI_nle q hh16)
               rw [if_neg h0]
               exact ⟨h9.1.trans (hf6.mono (by decide)), by rw [hf6 36 (by decide)]; exact h9.2⟩)
            | (have h0 : 0 < heN P s (s.2.1 + i) P.1 := Nat.pos_of_ne_zero (fun q => c33 (by rw [q]; decide))
               rw [if_pos h0]
               exact ⟨(h9.1.trans (hf6.mono (by decide))).up (by decide), by rw [upR_s, pk_us]⟩)) (fun I7 h7 => ?_)
        refine g_iload_n dX0_countBeginnings_48 rfl ?_
        refine g_iload_n dX0_countBeginnings_49 rfl ?_
        refine g_iadd dX0_countBeginnings_50 ?_
        rw [nI_add]
        refine g_istore_n dX0_countBeginnings_51 (by decide) ?_
        show Go _ _ _ _ _ _ [_, _, _, _] _ _ _
        refine g_iinc dX0_countBeginnings_52 rfl (by decide) ?_
        show Go _ _ _ _ _ _ [_, _, _, _] _ _ _
        refine g_goto (tgt := 15) dX0_countBeginnings_55 (by decide) ?_
        refine g_forget 3 ?_
        show Go _ _ _ _ _ _ [_, _, _, _] _ _ _
        rw [nI_inc, Nat.add_assoc]
        exact kk _ h7
  · skip
    refine g_iload_n dX0_countBeginnings_15 rfl ?_
    refine g_aload_n dX0_countBeginnings_16 rfl ?_
    refine t_getR dX0_countBeginnings_17 fl_X0_25 rfl (by decide) rfl (by decide) rfl ?_
    refine t_getI dX0_countBeginnings_20 fl_X0_72 rfl (by decide) rfl (by decide) ?_
    rw [h9.1 25 (by decide), hE.1]
    refine g_icmp_ge (tgt := 58) dX0_countBeginnings_23 (by decide) (fun c23 => ?_) (fun c23 => ?_)
    · skip
      refine g_iload_n dX0_countBeginnings_58 rfl ?_
      refine g_iret dX0_countBeginnings_59 (fun ty h => by cases h; rfl) ?_
      exact ⟨I5, rfl, h9.1, rfl, h9.2⟩
    · exact absurd (nI_le (show s.1 ≤ s.2.1 + (s.1 - s.2.1) by omega) (by omega)) c23
theorem pc_fits {rw tx : Tab} {P : Pce} {ds : List Deed} {sh : Shf} {tl : Int32} {ch : Int64 × Int64} {fn : Fnd} (hA : AbsC rw tx P ds sh tl ch fn I J) (hO : StOK rw tx P ds sh) : Ct X (d + 5) 66 M_X10_fits 66 [.ref 0] (I, J, rf0) (RI (fun y9 m => ∃ I', m = (I', J, rf0) ∧ FrC I I' ∧ y9 = (S_fits P ds tl).1 ∧ AbsC rw tx P ds sh (S_fits P ds tl).2 ch fn I' J)) := by
  have hP := hA.2.2.1
  have hQ := hO.2.2.1
  have h14 := hQ.2.1
  have h4 := hQ.1
  have hEv := hA.2.2.2.1
  have hD := hO.2.2.2.1
  have hE := hEv.2.2
  have hR : EvR (evO P ds) := EvR.e.run hQ hD.2
  have hP2 : EvP P (evO P ds) := EvP.e.run hD.2
  have h625 := p5 h4
  have htot := tot_lt hQ (evO P ds)
  show Go _ _ _ _ _ _ [_] _ _ _
  refine g_aload_n dX10_fits_0 rfl ?_
  refine t_getR dX10_fits_1 fl_X10_35 rfl (by decide) rfl (by decide) rfl ?_
  refine g_callVi dX10_fits_4 ln_X10_215 ⟨_, rfl⟩ rfl (by decide) ⟨_, _, rfl⟩ rfl (Nat.le_of_ble_eq_true rfl) (Nat.le_of_ble_eq_true rfl) (ct_isEmpty hP hQ) rfl (fun r4 m4 h4 => ?_)
  obtain ⟨rfl, rfl⟩ := h4
  refine g_if_eq (tgt := 13) dX10_fits_7 (by decide) (fun c7 => ?_) (fun c7 => ?_)
  · skip
    refine g_aload_n dX10_fits_13 rfl ?_
    refine t_getR dX10_fits_14 fl_X10_60 rfl (by decide) rfl (by decide) rfl ?_
    refine g_callVv dX10_fits_17 ln_X10_235 rfl rfl (by decide) ⟨_, _, rfl⟩ rfl (Nat.le_of_ble_eq_true rfl) (Nat.le_of_ble_eq_true rfl) (ct_weighAll hP hQ hE hR hP2) rfl (fun m17 h17 => ?_)
    obtain ⟨I1, rfl, hf1, hB⟩ := h17
    have hA1 : AbsC rw tx P ds sh tl ch fn I1 J := hA.scr (hf1.mono (by decide))
    have hP1 := hA1.2.2.1
    have hF1 : FrC I I1 := FrC.of hf1 (by decide)
    have hcle := cntP_le (ftB P (evO P ds)) (5 ^ P.1)
    refine g_aload_n dX10_fits_20 rfl ?_
    refine g_aload_n dX10_fits_21 rfl ?_
    refine t_getR dX10_fits_22 fl_X10_60 rfl (by decide) rfl (by decide) rfl ?_
    refine t_getI dX10_fits_25 fl_X10_238 rfl (by decide) rfl (by decide) ?_
    refine t_putI dX10_fits_28 fl_X10_111 rfl (by decide) rfl (by decide) ?_
    refine g_aload_n dX10_fits_31 rfl ?_
    refine t_getR dX10_fits_32 fl_X10_60 rfl (by decide) rfl (by decide) rfl ?_
    refine t_getI dX10_fits_35 fl_X10_241 rfl (by decide) rfl (by decide) ?_
    refine g_iret dX10_fits_38 (fun ty h => by cases h; rfl) ?_
    have hS : S_fits P ds tl = (nI (cntP (ftB P (evO P ds)) (5 ^ P.1)), oI (fstN (ftB P (evO P ds)) (5 ^ P.1))) := by unfold S_fits; rw [if_neg (of_decide_eq_false (bI_eq c7))]
    exact ⟨_, rfl, hF1.up (by decide), by rw [hS, upR_n (by decide)]; exact hB.2.1, by rw [hS, ← hB.2.2.1]; exact hA1.told⟩
  · skip
    refine g_bipush (v := -4) dX10_fits_10 (by decide) ?_
    refine g_iret dX10_fits_12 (fun ty h => by cases h; rfl) ?_
    have hS : S_fits P ds tl = (-4, tl) := by unfold S_fits; rw [if_pos (of_decide_eq_true (bI_ne c7))]
    exact ⟨_, rfl, FrC.rf, by rw [hS], by rw [hS]; exact hA⟩
theorem pc_likely {rw tx : Tab} {P : Pce} {ds : List Deed} {sh : Shf} {tl : Int32} {ch : Int64 × Int64} {fn : Fnd} (hA : AbsC rw tx P ds sh tl ch fn I J) (hO : StOK rw tx P ds sh) : Ct X (d + 5) 66 M_X10_likely 66 [.ref 0] (I, J, rf0) (RI (fun y9 m => ∃ I', m = (I', J, rf0) ∧ FrC I I' ∧ y9 = S_likely P ds ∧ AbsC rw tx P ds sh tl ch fn I' J)) := by
  have hP := hA.2.2.1
  have hQ := hO.2.2.1
  have h14 := hQ.2.1
  have h4 := hQ.1
  have hEv := hA.2.2.2.1
  have hD := hO.2.2.2.1
  have hE := hEv.2.2
  have hR : EvR (evO P ds) := EvR.e.run hQ hD.2
  have hP2 : EvP P (evO P ds) := EvP.e.run hD.2
  have h625 := p5 h4
  have htot := tot_lt hQ (evO P ds)
  show Go _ _ _ _ _ _ [_] _ _ _
  refine g_aload_n dX10_likely_0 rfl ?_
  refine t_getR dX10_likely_1 fl_X10_35 rfl (by decide) rfl (by decide) rfl ?_
  refine g_callVi dX10_likely_4 ln_X10_215 ⟨_, rfl⟩ rfl (by decide) ⟨_, _, rfl⟩ rfl (Nat.le_of_ble_eq_true rfl) (Nat.le_of_ble_eq_true rfl) (ct_isEmpty hP hQ) rfl (fun r4 m4 h4 => ?_)
  obtain ⟨rfl, rfl⟩ := h4
  refine g_if_eq (tgt := 13) dX10_likely_7 (by decide) (fun c7 => ?_) (fun c7 => ?_)
  · skip
    refine g_aload_n dX10_likely_13 rfl ?_
    refine t_getR dX10_likely_14 fl_X10_60 rfl (by decide) rfl (by decide) rfl ?_
    refine g_callVv dX10_likely_17 ln_X10_235 rfl rfl (by decide) ⟨_, _, rfl⟩ rfl (Nat.le_of_ble_eq_true rfl) (Nat.le_of_ble_eq_true rfl) (ct_weighAll hP hQ hE hR hP2) rfl (fun m17 h17 => ?_)
    obtain ⟨I1, rfl, hf1, hB⟩ := h17
    have hA1 : AbsC rw tx P ds sh tl ch fn I1 J := hA.scr (hf1.mono (by decide))
    have hP1 := hA1.2.2.1
    have hF1 : FrC I I1 := FrC.of hf1 (by decide)
    have hcle := cntP_le (ftB P (evO P ds)) (5 ^ P.1)
    refine g_aload_n dX10_likely_20 rfl ?_
    refine t_getR dX10_likely_21 fl_X10_60 rfl (by decide) rfl (by decide) rfl ?_
    refine t_getI dX10_likely_24 fl_X10_269 rfl (by decide) rfl (by decide) ?_
    refine g_iret dX10_likely_27 (fun ty h => by cases h; rfl) ?_
    exact ⟨_, rfl, hF1, by unfold S_likely; rw [if_neg (of_decide_eq_false (bI_eq c7))]; exact hB.2.2.2.1, hA1⟩
  · skip
    refine g_bipush (v := -4) dX10_likely_10 (by decide) ?_
    refine g_iret dX10_likely_12 (fun ty h => by cases h; rfl) ?_
    exact ⟨_, rfl, FrC.rf, by unfold S_likely; rw [if_pos (of_decide_eq_true (bI_ne c7))], hA⟩
theorem pc_odds {rw tx : Tab} {P : Pce} {ds : List Deed} {sh : Shf} {tl : Int32} {ch : Int64 × Int64} {fn : Fnd} {p : Int32} (hA : AbsC rw tx P ds sh tl ch fn I J) (hO : StOK rw tx P ds sh) : Ct X (d + 5) 66 M_X10_odds 66 [.ref 0, .int p] (I, J, rf0) (RI (fun y9 m => ∃ I' J', m = (I', J', rf0) ∧ FrC I I' ∧ J' 48 = J 48 ∧ y9 = (S_odds P ds ch fn p).1 ∧ AbsC rw tx P ds sh tl (S_odds P ds ch fn p).2.1 (S_odds P ds ch fn p).2.2 I' J')) := by
  have hP := hA.2.2.1
  have hQ := hO.2.2.1
  have h14 := hQ.2.1
  have h4 := hQ.1
  have hEv := hA.2.2.2.1
  have hD := hO.2.2.2.1
  have hE := hEv.2.2
  have hR : EvR (evO P ds) := EvR.e.run hQ hD.2
  have hP2 : EvP P (evO P ds) := EvP.e.run hD.2
  have h625 := p5 h4
  have htot := tot_lt hQ (evO P ds)
  show Go _ _ _ _ _ _ [_, _] _ _ _
  refine g_aload_n dX10_odds_0 rfl ?_
  refine t_getR dX10_odds_1 fl_X10_35 rfl (by decide) rfl (by decide) rfl ?_
  refine g_iload_n dX10_odds_4 rfl ?_
  refine g_callVi dX10_odds_5 ln_X10_174 ⟨_, rfl⟩ rfl (by decide) ⟨_, _, rfl⟩ rfl (Nat.le_of_ble_eq_true rfl) (Nat.le_of_ble_eq_true rfl) (ct_hasPlayer hP) rfl (fun r5 m5 h5 => ?_)
  obtain ⟨rfl, rfl⟩ := h5
  refine g_if_ne (tgt := 13) dX10_odds_8 (by decide) (fun c8 => ?_) (fun c8 => ?_)
  · skip
    have q1 := bI_ne c8
    obtain ⟨p, hp, rfl⟩ := inR_ix (by omega) q1
    refine g_aload_n dX10_odds_13 rfl ?_
    refine t_getR dX10_odds_14 fl_X10_60 rfl (by decide) rfl (by decide) rfl ?_
    refine g_callVv dX10_odds_17 ln_X10_235 rfl rfl (by decide) ⟨_, _, rfl⟩ rfl (Nat.le_of_ble_eq_true rfl) (Nat.le_of_ble_eq_true rfl) (ct_weighAll hP hQ hE hR hP2) rfl (fun m17 h17 => ?_)
    obtain ⟨I1, rfl, hf1, hB⟩ := h17
    have hA1 : AbsC rw tx P ds sh tl ch fn I1 J := hA.scr (hf1.mono (by decide))
    have hP1 := hA1.2.2.1
    have hF1 : FrC I I1 := FrC.of hf1 (by decide)
    have hcle := cntP_le (ftB P (evO P ds)) (5 ^ P.1)
    refine g_aload_n dX10_odds_20 rfl ?_
    refine t_getR dX10_odds_21 fl_X10_60 rfl (by decide) rfl (by decide) rfl ?_
    refine t_getI dX10_odds_24 fl_X10_241 rfl (by decide) rfl (by decide) ?_
    rw [hB.2.1]
    refine g_if_ne (tgt := 36) dX10_odds_27 (by decide) (fun c27 => ?_) (fun c27 => ?_)
    · skip
      refine g_aload_n dX10_odds_36 rfl ?_
      refine g_aload_n dX10_odds_37 rfl ?_
      refine t_getR dX10_odds_38 fl_X10_60 rfl (by decide) rfl (by decide) rfl ?_
      refine g_iload_n dX10_odds_41 rfl ?_
      refine g_callVi dX10_odds_42 ln_X10_244 ⟨_, rfl⟩ rfl (by decide) ⟨_, _, rfl⟩ rfl (Nat.le_of_ble_eq_true rfl) (Nat.le_of_ble_eq_true rfl) (ct_weightOut hP1 hQ hB hp) rfl (fun r42 m42 h42 => ?_)
      obtain ⟨rfl, rfl⟩ := h42
      refine g_aload_n dX10_odds_45 rfl ?_
      refine t_getR dX10_odds_46 fl_X10_60 rfl (by decide) rfl (by decide) rfl ?_
      refine t_getI dX10_odds_49 fl_X10_247 rfl (by decide) rfl (by decide) ?_
      rw [hB.2.2.2.2.1]
      have ht0 : 0 < smF (fW P (evO P ds)) (5 ^ P.1) := Nat.pos_of_ne_zero (fun q => c27 (by rw [(sm_cnt (fun i => fW_pos)).mp q]; rfl))
      refine g_callVv dX10_odds_52 ln_X10_250 rfl rfl (by decide) ⟨_, _, rfl⟩ rfl (Nat.le_of_ble_eq_true rfl) (Nat.le_of_ble_eq_true rfl) (ct_tellChance (by unfold wO; omega) htot ht0) rfl (fun m52 h52 => ?_)
      obtain ⟨J1, rfl, hj1, hj2, hj3⟩ := h52
      refine g_iconst (v := 1) dX10_odds_55 (by decide) ?_
      refine g_iret dX10_odds_56 (fun ty h => by cases h; rfl) ?_
      have hS : S_odds P ds ch fn (nI p) = (1, chS (wO P (evO P ds) p) (smF (fW P (evO P ds)) (5 ^ P.1)), fn) := by unfold S_odds; rw [q1, cl_nI (by omega)]; exact if_neg (fun (q : cntP (ftB P (evO P ds)) (5 ^ P.1) = 0) => c27 (by rw [q]; rfl))
      exact ⟨_, _, rfl, hF1, hj3, by rw [hS], by rw [hS]; exact hA1.chs hj1 hj2⟩
    · skip
      refine g_aload_n dX10_odds_30 rfl ?_
      refine g_iconst (v := 4) dX10_odds_31 (by decide) ?_
      refine g_callVi dX10_odds_32 ln_X10_96 ⟨_, rfl⟩ rfl (by decide) ⟨_, _, rfl⟩ rfl (Nat.le_of_ble_eq_true rfl) (Nat.le_of_ble_eq_true rfl) (ct_find (w := 4) (by decide)) rfl (fun r32 m32 h32 => ?_)
      obtain ⟨rfl, rfl⟩ := h32
      refine g_iret dX10_odds_35 (fun ty h => by cases h; rfl) ?_
      have hS : S_odds P ds ch fn (nI p) = (-3, ch, fndS 4 fn) := by unfold S_odds; rw [q1]; exact if_pos ((nI_eq (by omega) (by decide)).mp (show nI (cntP (ftB P (evO P ds)) (5 ^ P.1)) = nI 0 from c27))
      exact ⟨_, _, rfl, hF1.tr FrC.find, rfl, by rw [hS], by rw [hS]; exact hA1.find (by decide)⟩
  · skip
    refine g_iconst (v := -1) dX10_odds_11 (by decide) ?_
    refine g_iret dX10_odds_12 (fun ty h => by cases h; rfl) ?_
    have hS : S_odds P ds ch fn p = (-1, ch, fn) := by unfold S_odds; rw [bI_eq c8]; rfl
    exact ⟨I, J, rfl, FrC.rf, rfl, by rw [hS], by rw [hS]; exact hA⟩
theorem pc_self {rw tx : Tab} {P : Pce} {ds : List Deed} {sh : Shf} {tl : Int32} {ch : Int64 × Int64} {fn : Fnd} {p : Int32} (hA : AbsC rw tx P ds sh tl ch fn I J) (hO : StOK rw tx P ds sh) : Ct X (d + 5) 66 M_X10_self 66 [.ref 0, .int p] (I, J, rf0) (RI (fun y9 m => ∃ I' J', m = (I', J', rf0) ∧ FrC I I' ∧ J' 48 = J 48 ∧ y9 = (S_self P ds ch fn p).1 ∧ AbsC rw tx P ds sh tl (S_self P ds ch fn p).2.1 (S_self P ds ch fn p).2.2 I' J')) := by
  have hP := hA.2.2.1
  have hQ := hO.2.2.1
  have h14 := hQ.2.1
  have h4 := hQ.1
  have hEv := hA.2.2.2.1
  have hD := hO.2.2.2.1
  have hE := hEv.2.2
  have hR : EvR (evO P ds) := EvR.e.run hQ hD.2
  have hP2 : EvP P (evO P ds) := EvP.e.run hD.2
  have h625 := p5 h4
  have htot := tot_lt hQ (evO P ds)
  show Go _ _ _ _ _ _ [_, _, _] _ _ _
  refine g_aload_n dX10_self_0 rfl ?_
  refine t_getR dX10_self_1 fl_X10_35 rfl (by decide) rfl (by decide) rfl ?_
  refine g_iload_n dX10_self_4 rfl ?_
  refine g_callVi dX10_self_5 ln_X10_174 ⟨_, rfl⟩ rfl (by decide) ⟨_, _, rfl⟩ rfl (Nat.le_of_ble_eq_true rfl) (Nat.le_of_ble_eq_true rfl) (ct_hasPlayer hP) rfl (fun r5 m5 h5 => ?_)
  obtain ⟨rfl, rfl⟩ := h5
  refine g_if_ne (tgt := 13) dX10_self_8 (by decide) (fun c8 => ?_) (fun c8 => ?_)
  · skip
    have q1 := bI_ne c8
    obtain ⟨p, hp, rfl⟩ := inR_ix (by omega) q1
    have hwa := wAt_lt hQ (evO P ds) p 2
    have hc0 := cntP_le (ft0 P (evO P ds) p) (5 ^ P.1)
    refine g_aload_n dX10_self_13 rfl ?_
    refine t_getR dX10_self_14 fl_X10_60 rfl (by decide) rfl (by decide) rfl ?_
    refine g_callVv dX10_self_17 ln_X10_235 rfl rfl (by decide) ⟨_, _, rfl⟩ rfl (Nat.le_of_ble_eq_true rfl) (Nat.le_of_ble_eq_true rfl) (ct_weighAll hP hQ hE hR hP2) rfl (fun m17 h17 => ?_)
    obtain ⟨I1, rfl, hf1, hB⟩ := h17
    have hA1 : AbsC rw tx P ds sh tl ch fn I1 J := hA.scr (hf1.mono (by decide))
    have hP1 := hA1.2.2.1
    have hF1 : FrC I I1 := FrC.of hf1 (by decide)
    have hcle := cntP_le (ftB P (evO P ds)) (5 ^ P.1)
    refine g_aload_n dX10_self_20 rfl ?_
    refine t_getR dX10_self_21 fl_X10_60 rfl (by decide) rfl (by decide) rfl ?_
    refine g_iload_n dX10_self_24 rfl ?_
    refine g_callVi dX10_self_25 ln_X10_253 ⟨_, rfl⟩ rfl (by decide) ⟨_, _, rfl⟩ rfl (Nat.le_of_ble_eq_true rfl) (Nat.le_of_ble_eq_true rfl) (ct_fitW hP1 hQ hB hp) rfl (fun r25 m25 h25 => ?_)
    obtain ⟨rfl, rfl⟩ := h25
    refine g_if_ne (tgt := 37) dX10_self_28 (by decide) (fun c28 => ?_) (fun c28 => ?_)
    · skip
      refine g_aload_n dX10_self_37 rfl ?_
      refine t_getR dX10_self_38 fl_X10_60 rfl (by decide) rfl (by decide) rfl ?_
      refine g_iload_n dX10_self_41 rfl ?_
      refine g_iconst (v := 0) dX10_self_42 (by decide) ?_
      refine g_callVi dX10_self_43 ln_X10_256 ⟨_, rfl⟩ rfl (by decide) ⟨_, _, rfl⟩ rfl (Nat.le_of_ble_eq_true rfl) (Nat.le_of_ble_eq_true rfl) (ct_weightAt0 hP1 hQ hB hp) rfl (fun r43 m43 h43 => ?_)
      obtain ⟨rfl, rfl⟩ := h43
      refine g_istore_n dX10_self_46 (by decide) ?_
      show Go _ _ _ _ _ _ [_, _, _] _ _ _
      refine g_aload_n dX10_self_47 rfl ?_
      refine g_iload_n dX10_self_48 rfl ?_
      refine g_aload_n dX10_self_49 rfl ?_
      refine t_getR dX10_self_50 fl_X10_60 rfl (by decide) rfl (by decide) rfl ?_
      refine t_getI dX10_self_53 fl_X10_259 rfl (by decide) rfl (by decide) ?_
      refine g_isub dX10_self_56 ?_
      rw [hB.2.2.2.2.2.1, pk_sub (smF_mono (nob_le hp) _)]
      have ht0 : 0 < smF (wE P (evO P ds) p 2) (5 ^ P.1) := Nat.pos_of_ne_zero (fun q => c28 (by rw [(sm_cnt (fun i => wE_pos)).mp q]; rfl))
      refine g_iload_n dX10_self_57 rfl ?_
      refine g_callVv dX10_self_58 ln_X10_250 rfl rfl (by decide) ⟨_, _, rfl⟩ rfl (Nat.le_of_ble_eq_true rfl) (Nat.le_of_ble_eq_true rfl) (ct_tellChance (by omega) hwa ht0) rfl (fun m58 h58 => ?_)
      obtain ⟨J1, rfl, hj1, hj2, hj3⟩ := h58
      refine g_iconst (v := 1) dX10_self_61 (by decide) ?_
      refine g_iret dX10_self_62 (fun ty h => by cases h; rfl) ?_
      have hS : S_self P ds ch fn (nI p) = (1, chS (smF (wE P (evO P ds) p 2) (5 ^ P.1) - smF (nobW P (evO P ds)) (5 ^ P.1)) (smF (wE P (evO P ds) p 2) (5 ^ P.1)), fn) := by unfold S_self; rw [q1, cl_nI (by omega)]; exact if_neg (fun (q : cntP (ft0 P (evO P ds) p) (5 ^ P.1) = 0) => c28 (by rw [q]; rfl))
      exact ⟨_, _, rfl, hF1, hj3, by rw [hS], by rw [hS]; exact hA1.chs hj1 hj2⟩
    · skip
      refine g_aload_n dX10_self_31 rfl ?_
      refine g_iconst (v := 4) dX10_self_32 (by decide) ?_
      refine g_callVi dX10_self_33 ln_X10_96 ⟨_, rfl⟩ rfl (by decide) ⟨_, _, rfl⟩ rfl (Nat.le_of_ble_eq_true rfl) (Nat.le_of_ble_eq_true rfl) (ct_find (w := 4) (by decide)) rfl (fun r33 m33 h33 => ?_)
      obtain ⟨rfl, rfl⟩ := h33
      refine g_iret dX10_self_36 (fun ty h => by cases h; rfl) ?_
      have hS : S_self P ds ch fn (nI p) = (-3, ch, fndS 4 fn) := by unfold S_self; rw [q1, cl_nI (by omega)]; exact if_pos ((nI_eq (by omega) (by decide)).mp (show nI (cntP (ft0 P (evO P ds) p) (5 ^ P.1)) = nI 0 from c28))
      exact ⟨_, _, rfl, hF1.tr FrC.find, rfl, by rw [hS], by rw [hS]; exact hA1.find (by decide)⟩
  · skip
    refine g_iconst (v := -1) dX10_self_11 (by decide) ?_
    refine g_iret dX10_self_12 (fun ty h => by cases h; rfl) ?_
    have hS : S_self P ds ch fn p = (-1, ch, fn) := by unfold S_self; rw [bI_eq c8]; rfl
    exact ⟨I, J, rfl, FrC.rf, rfl, by rw [hS], by rw [hS]; exact hA⟩
theorem pc_who {rw tx : Tab} {P : Pce} {ds : List Deed} {sh : Shf} {tl : Int32} {ch : Int64 × Int64} {fn : Fnd} (hA : AbsC rw tx P ds sh tl ch fn I J) (hO : StOK rw tx P ds sh) : Ct X (d + 5) 66 M_X10_who 66 [.ref 0] (I, J, rf0) (RI (fun y9 m => ∃ I', m = (I', J, rf0) ∧ FrC I I' ∧ y9 = (S_who P ds tl fn).1 ∧ AbsC rw tx P ds sh (S_who P ds tl fn).2.1 ch (S_who P ds tl fn).2.2 I' J)) := by
  have hP := hA.2.2.1
  have hQ := hO.2.2.1
  have h14 := hQ.2.1
  have h4 := hQ.1
  have hEv := hA.2.2.2.1
  have hD := hO.2.2.2.1
  have hE := hEv.2.2
  have hR : EvR (evO P ds) := EvR.e.run hQ hD.2
  have hP2 : EvP P (evO P ds) := EvP.e.run hD.2
  have h625 := p5 h4
  have htot := tot_lt hQ (evO P ds)
  show Go _ _ _ _ _ _ [_, _] _ _ _
  refine g_aload_n dX10_who_0 rfl ?_
  refine t_getR dX10_who_1 fl_X10_35 rfl (by decide) rfl (by decide) rfl ?_
  refine g_callVi dX10_who_4 ln_X10_215 ⟨_, rfl⟩ rfl (by decide) ⟨_, _, rfl⟩ rfl (Nat.le_of_ble_eq_true rfl) (Nat.le_of_ble_eq_true rfl) (ct_isEmpty hP hQ) rfl (fun r4 m4 h4 => ?_)
  obtain ⟨rfl, rfl⟩ := h4
  refine g_if_eq (tgt := 13) dX10_who_7 (by decide) (fun c7 => ?_) (fun c7 => ?_)
  · skip
    refine g_aload_n dX10_who_13 rfl ?_
    refine t_getR dX10_who_14 fl_X10_60 rfl (by decide) rfl (by decide) rfl ?_
    refine g_callVv dX10_who_17 ln_X10_235 rfl rfl (by decide) ⟨_, _, rfl⟩ rfl (Nat.le_of_ble_eq_true rfl) (Nat.le_of_ble_eq_true rfl) (ct_weighAll hP hQ hE hR hP2) rfl (fun m17 h17 => ?_)
    obtain ⟨I1, rfl, hf1, hB⟩ := h17
    have hA1 : AbsC rw tx P ds sh tl ch fn I1 J := hA.scr (hf1.mono (by decide))
    have hP1 := hA1.2.2.1
    have hF1 : FrC I I1 := FrC.of hf1 (by decide)
    have hcle := cntP_le (ftB P (evO P ds)) (5 ^ P.1)
    refine g_aload_n dX10_who_20 rfl ?_
    refine t_getR dX10_who_21 fl_X10_60 rfl (by decide) rfl (by decide) rfl ?_
    refine t_getI dX10_who_24 fl_X10_241 rfl (by decide) rfl (by decide) ?_
    rw [hB.2.1]
    refine g_if_ne (tgt := 36) dX10_who_27 (by decide) (fun c27 => ?_) (fun c27 => ?_)
    · skip
      refine g_aload_n dX10_who_36 rfl ?_
      refine t_getR dX10_who_37 fl_X10_60 rfl (by decide) rfl (by decide) rfl ?_
      refine g_callVi dX10_who_40 ln_X10_262 ⟨_, rfl⟩ rfl (by decide) ⟨_, _, rfl⟩ rfl (Nat.le_of_ble_eq_true rfl) (Nat.le_of_ble_eq_true rfl) (ct_likeliestPlayer hP1 hQ hB) rfl (fun r40 m40 h40 => ?_)
      obtain ⟨rfl, rfl⟩ := h40
      refine g_istore_n dX10_who_43 (by decide) ?_
      show Go _ _ _ _ _ _ [_, _] _ _ _
      refine g_iload_n dX10_who_44 rfl ?_
      refine g_bipush (v := -9) dX10_who_45 (by decide) ?_
      refine g_icmp_ne (tgt := 53) dX10_who_47 (by decide) (fun c47 => ?_) (fun c47 => ?_)
      · skip
        obtain ⟨p, hlp⟩ : ∃ p, (lkF P (evO P ds) P.1).1 = some p := by
          cases hh : (lkF P (evO P ds) P.1).1 with
          | none => rw [hh] at c47; exact absurd rfl c47
          | some q => exact ⟨q, rfl⟩
        have hp := lkF_in hlp
        rw [hlp]
        show Go _ _ _ _ _ _ [_, .int (nI p)] _ _ _
        refine g_aload_n dX10_who_53 rfl ?_
        refine g_aload_n dX10_who_54 rfl ?_
        refine t_getR dX10_who_55 fl_X10_60 rfl (by decide) rfl (by decide) rfl ?_
        refine g_iload_n dX10_who_58 rfl ?_
        refine g_callVi dX10_who_59 ln_X10_266 ⟨_, rfl⟩ rfl (by decide) ⟨_, _, rfl⟩ rfl (Nat.le_of_ble_eq_true rfl) (Nat.le_of_ble_eq_true rfl) (ct_likeliestOut (p := p) hP1 hQ hB hp) rfl (fun r59 m59 h59 => ?_)
        obtain ⟨rfl, rfl⟩ := h59
        refine g_iconst (v := 2) dX10_who_62 (by decide) ?_
        refine g_iadd dX10_who_63 ?_
        rw [show (2 : Int32) = zI 2 from rfl, z_add, show (loF P (evO P ds) p 5 : Int) - 2 + 2 = ((loF P (evO P ds) p 5 : Nat) : Int) by omega, ← nI_z]
        refine t_putI dX10_who_64 fl_X10_111 rfl (by decide) rfl (by decide) ?_
        refine g_iload_n dX10_who_67 rfl ?_
        refine g_iret dX10_who_68 (fun ty h => by cases h; rfl) ?_
        have hS : S_who P ds tl fn = (nI p, nI (loF P (evO P ds) p 5), fn) := by unfold S_who; rw [if_neg (of_decide_eq_false (bI_eq c7)), if_neg (fun (q : cntP (ftB P (evO P ds)) (5 ^ P.1) = 0) => c27 (by rw [q]; rfl)), hlp]
        exact ⟨_, rfl, hF1.up (by decide), by rw [hS], by rw [hS]; exact hA1.told⟩
      · skip
        refine g_bipush (v := -9) dX10_who_50 (by decide) ?_
        refine g_iret dX10_who_52 (fun ty h => by cases h; rfl) ?_
        have hno : (lkF P (evO P ds) P.1).1 = none := by
          cases hh : (lkF P (evO P ds) P.1).1 with
          | none => rfl
          | some q =>
            rw [hh] at c47
            have := lkF_in hh
            have e := congrArg Int32.toInt (show nI q = -9 from c47)
            rw [nI_toInt (by omega), show (-9 : Int32).toInt = -9 by decide] at e
            omega
        have hS : S_who P ds tl fn = (-9, tl, fn) := by unfold S_who; rw [if_neg (of_decide_eq_false (bI_eq c7)), if_neg (fun (q : cntP (ftB P (evO P ds)) (5 ^ P.1) = 0) => c27 (by rw [q]; rfl)), hno]
        exact ⟨_, rfl, hF1, by rw [hS], by rw [hS]; exact hA1⟩
    · skip
      refine g_aload_n dX10_who_30 rfl ?_
      refine g_iconst (v := 4) dX10_who_31 (by decide) ?_
      refine g_callVi dX10_who_32 ln_X10_96 ⟨_, rfl⟩ rfl (by decide) ⟨_, _, rfl⟩ rfl (Nat.le_of_ble_eq_true rfl) (Nat.le_of_ble_eq_true rfl) (ct_find (w := 4) (by decide)) rfl (fun r32 m32 h32 => ?_)
      obtain ⟨rfl, rfl⟩ := h32
      refine g_iret dX10_who_35 (fun ty h => by cases h; rfl) ?_
      have hS : S_who P ds tl fn = (-3, tl, fndS 4 fn) := by unfold S_who; rw [if_neg (of_decide_eq_false (bI_eq c7)), if_pos ((nI_eq (by omega) (by decide)).mp (show nI (cntP (ftB P (evO P ds)) (5 ^ P.1)) = nI 0 from c27))]
      exact ⟨_, rfl, hF1.tr FrC.find, by rw [hS], by rw [hS]; exact hA1.find (by decide)⟩
  · skip
    refine g_bipush (v := -4) dX10_who_10 (by decide) ?_
    refine g_iret dX10_who_12 (fun ty h => by cases h; rfl) ?_
    have hS : S_who P ds tl fn = (-4, tl, fn) := by unfold S_who; rw [if_pos (of_decide_eq_true (bI_ne c7))]
    exact ⟨_, rfl, FrC.rf, by rw [hS], by rw [hS]; exact hA⟩
theorem pc_aloud {rw tx : Tab} {P : Pce} {ds : List Deed} {sh : Shf} {tl : Int32} {ch : Int64 × Int64} {fn : Fnd} (hA : AbsC rw tx P ds sh tl ch fn I J) (hO : StOK rw tx P ds sh) : Ct X (d + 5) 66 M_X10_aloud 66 [.ref 0] (I, J, rf0) (RI (fun y9 m => ∃ I', m = (I', J, rf0) ∧ FrC I I' ∧ y9 = (S_aloud P ds tl fn).1 ∧ AbsC rw tx P ds sh (S_aloud P ds tl fn).2.1 ch (S_aloud P ds tl fn).2.2 I' J)) := by
  have hP := hA.2.2.1
  have hQ := hO.2.2.1
  have h14 := hQ.2.1
  have h4 := hQ.1
  have hEv := hA.2.2.2.1
  have hD := hO.2.2.2.1
  have hE := hEv.2.2
  have hR : EvR (evO P ds) := EvR.e.run hQ hD.2
  have hP2 : EvP P (evO P ds) := EvP.e.run hD.2
  have h625 := p5 h4
  have htot := tot_lt hQ (evO P ds)
  show Go _ _ _ _ _ _ [_, _, _] _ _ _
  refine g_aload_n dX10_aloud_0 rfl ?_
  refine t_getR dX10_aloud_1 fl_X10_35 rfl (by decide) rfl (by decide) rfl ?_
  refine g_callVi dX10_aloud_4 ln_X10_215 ⟨_, rfl⟩ rfl (by decide) ⟨_, _, rfl⟩ rfl (Nat.le_of_ble_eq_true rfl) (Nat.le_of_ble_eq_true rfl) (ct_isEmpty hP hQ) rfl (fun r4 m4 h4 => ?_)
  obtain ⟨rfl, rfl⟩ := h4
  refine g_if_eq (tgt := 13) dX10_aloud_7 (by decide) (fun c7 => ?_) (fun c7 => ?_)
  · skip
    refine g_aload_n dX10_aloud_13 rfl ?_
    refine t_getR dX10_aloud_14 fl_X10_60 rfl (by decide) rfl (by decide) rfl ?_
    refine g_callVv dX10_aloud_17 ln_X10_235 rfl rfl (by decide) ⟨_, _, rfl⟩ rfl (Nat.le_of_ble_eq_true rfl) (Nat.le_of_ble_eq_true rfl) (ct_weighAll hP hQ hE hR hP2) rfl (fun m17 h17 => ?_)
    obtain ⟨I1, rfl, hf1, hB⟩ := h17
    have hA1 : AbsC rw tx P ds sh tl ch fn I1 J := hA.scr (hf1.mono (by decide))
    have hP1 := hA1.2.2.1
    have hF1 : FrC I I1 := FrC.of hf1 (by decide)
    have hcle := cntP_le (ftB P (evO P ds)) (5 ^ P.1)
    refine g_aload_n dX10_aloud_20 rfl ?_
    refine t_getR dX10_aloud_21 fl_X10_60 rfl (by decide) rfl (by decide) rfl ?_
    refine t_getI dX10_aloud_24 fl_X10_241 rfl (by decide) rfl (by decide) ?_
    rw [hB.2.1]
    refine g_if_ne (tgt := 36) dX10_aloud_27 (by decide) (fun c27 => ?_) (fun c27 => ?_)
    · skip
      have h2p : 2 ≤ P.1 := hQ.2.2.1.resolve_left (of_decide_eq_false (bI_eq c7))
      refine g_iconst (v := 0) dX10_aloud_36 (by decide) ?_
      refine g_istore_n dX10_aloud_37 (by decide) ?_
      show Go _ _ _ _ _ _ [_, _, _] _ _ _
      refine g_iconst (v := 1) dX10_aloud_38 (by decide) ?_
      refine g_istore_n dX10_aloud_39 (by decide) ?_
      show Go _ _ _ _ _ _ [_, _, _] _ _ _
      rw [show (0 : Int32) = nI (alF P (evO P ds) (0 + 1)) by rw [alF_1]; rfl]
      refine go_ix (P.1 - 1) (fun i => Go X (d + 5) 66 M_X10_aloud 66 40 [.ref 0, .int (nI (alF P (evO P ds) (i + 1))), .int (nI (i + 1))] [] (I1, J, rf0) (RI (fun y9 m => ∃ I', m = (I', J, rf0) ∧ FrC I I' ∧ y9 = (S_aloud P ds tl fn).1 ∧ AbsC rw tx P ds sh (S_aloud P ds tl fn).2.1 ch (S_aloud P ds tl fn).2.2 I' J))) (fun i hi kk => ?_) ?_
      · have hal9 := alF_lt (P := P) (s := evO P ds) (show 0 < i + 1 by omega)
        have hb1 := cntP_le (ft0 P (evO P ds) (i + 1)) (5 ^ P.1)
        have hb2 := cntP_le (ft0 P (evO P ds) (alF P (evO P ds) (i + 1))) (5 ^ P.1)
        refine g_iload_n dX10_aloud_40 rfl ?_
        refine g_aload_n dX10_aloud_41 rfl ?_
        refine t_getR dX10_aloud_42 fl_X10_35 rfl (by decide) rfl (by decide) rfl ?_
        refine t_getI dX10_aloud_45 fl_X10_329 rfl (by decide) rfl (by decide) ?_
        rw [hP1.1]
        refine g_icmp_ge (tgt := 78) dX10_aloud_48 (by decide) (fun c48 => ?_) (fun c48 => ?_)
        · exact absurd (nI_lt (show i + 1 < P.1 by omega) (by omega)) (Int32.not_lt.mpr c48)
        · skip
          refine g_aload_n dX10_aloud_51 rfl ?_
          refine t_getR dX10_aloud_52 fl_X10_60 rfl (by decide) rfl (by decide) rfl ?_
          refine g_iload_n dX10_aloud_55 rfl ?_
          refine g_callVi dX10_aloud_56 ln_X10_253 ⟨_, rfl⟩ rfl (by decide) ⟨_, _, rfl⟩ rfl (Nat.le_of_ble_eq_true rfl) (Nat.le_of_ble_eq_true rfl) (ct_fitW (p := i + 1) hP1 hQ hB (by omega)) rfl (fun r56 m56 h56 => ?_)
          obtain ⟨rfl, rfl⟩ := h56
          refine g_aload_n dX10_aloud_59 rfl ?_
          refine t_getR dX10_aloud_60 fl_X10_60 rfl (by decide) rfl (by decide) rfl ?_
          refine g_iload_n dX10_aloud_63 rfl ?_
          refine g_callVi dX10_aloud_64 ln_X10_253 ⟨_, rfl⟩ rfl (by decide) ⟨_, _, rfl⟩ rfl (Nat.le_of_ble_eq_true rfl) (Nat.le_of_ble_eq_true rfl) (ct_fitW (p := alF P (evO P ds) (i + 1)) hP1 hQ hB (by omega)) rfl (fun r64 m64 h64 => ?_)
          obtain ⟨rfl, rfl⟩ := h64
          refine g_icmp_ge (tgt := 72) dX10_aloud_67 (by decide) (fun c67 => ?_) (fun c67 => ?_)
          · skip
            refine g_iinc dX10_aloud_72 rfl (by decide) ?_
            show Go _ _ _ _ _ _ [_, _, _] _ _ _
            refine g_goto (tgt := 40) dX10_aloud_75 (by decide) ?_
            rw [nI_inc]
            rw [alF_s] at kk
            first
              | (rw [if_pos ((nI_ltI (by omega) (by omega)).mp (Int32.not_le.mp c67))] at kk
                 exact kk)
              | (rw [if_neg (fun q => absurd (nI_lt q (by omega)) (Int32.not_lt.mpr c67))] at kk
                 exact kk)
              | fail "no way"
          · skip
            refine g_iload_n dX10_aloud_70 rfl ?_
            refine g_istore_n dX10_aloud_71 (by decide) ?_
            show Go _ _ _ _ _ _ [_, _, _] _ _ _
            refine g_iinc dX10_aloud_72 rfl (by decide) ?_
            show Go _ _ _ _ _ _ [_, _, _] _ _ _
            refine g_goto (tgt := 40) dX10_aloud_75 (by decide) ?_
            rw [nI_inc]
            rw [alF_s] at kk
            first
              | (rw [if_pos ((nI_ltI (by omega) (by omega)).mp (Int32.not_le.mp c67))] at kk
                 exact kk)
              | (rw [if_neg (fun q => absurd (nI_lt q (by omega)) (Int32.not_lt.mpr c67))] at kk
                 exact kk)
              | fail "no way"
      · skip
        refine g_iload_n dX10_aloud_40 rfl ?_
        refine g_aload_n dX10_aloud_41 rfl ?_
        refine t_getR dX10_aloud_42 fl_X10_35 rfl (by decide) rfl (by decide) rfl ?_
        refine t_getI dX10_aloud_45 fl_X10_329 rfl (by decide) rfl (by decide) ?_
        rw [hP1.1]
        refine g_icmp_ge (tgt := 78) dX10_aloud_48 (by decide) (fun c48 => ?_) (fun c48 => ?_)
        · skip
          rw [show P.1 - 1 + 1 = P.1 by omega]
          have hal := alF_lt (P := P) (s := evO P ds) (show 0 < P.1 by omega)
          refine g_aload_n dX10_aloud_78 rfl ?_
          refine g_aload_n dX10_aloud_79 rfl ?_
          refine t_getR dX10_aloud_80 fl_X10_60 rfl (by decide) rfl (by decide) rfl ?_
          refine g_iload_n dX10_aloud_83 rfl ?_
          refine g_callVi dX10_aloud_84 ln_X10_253 ⟨_, rfl⟩ rfl (by decide) ⟨_, _, rfl⟩ rfl (Nat.le_of_ble_eq_true rfl) (Nat.le_of_ble_eq_true rfl) (ct_fitW (p := alF P (evO P ds) P.1) hP1 hQ hB hal) rfl (fun r84 m84 h84 => ?_)
          obtain ⟨rfl, rfl⟩ := h84
          refine t_putI dX10_aloud_87 fl_X10_111 rfl (by decide) rfl (by decide) ?_
          refine g_iload_n dX10_aloud_90 rfl ?_
          refine g_iret dX10_aloud_91 (fun ty h => by cases h; rfl) ?_
          have hS : S_aloud P ds tl fn = (nI (alF P (evO P ds) P.1), nI (cntP (ft0 P (evO P ds) (alF P (evO P ds) P.1)) (5 ^ P.1)), fn) := by unfold S_aloud; rw [if_neg (of_decide_eq_false (bI_eq c7)), if_neg (fun (q : cntP (ftB P (evO P ds)) (5 ^ P.1) = 0) => c27 (by rw [q]; rfl))]
          exact ⟨_, rfl, hF1.up (by decide), by rw [hS], by rw [hS]; exact hA1.told⟩
        · exact absurd (nI_le (show P.1 ≤ P.1 - 1 + 1 by omega) (by omega)) c48
    · skip
      refine g_aload_n dX10_aloud_30 rfl ?_
      refine g_iconst (v := 4) dX10_aloud_31 (by decide) ?_
      refine g_callVi dX10_aloud_32 ln_X10_96 ⟨_, rfl⟩ rfl (by decide) ⟨_, _, rfl⟩ rfl (Nat.le_of_ble_eq_true rfl) (Nat.le_of_ble_eq_true rfl) (ct_find (w := 4) (by decide)) rfl (fun r32 m32 h32 => ?_)
      obtain ⟨rfl, rfl⟩ := h32
      refine g_iret dX10_aloud_35 (fun ty h => by cases h; rfl) ?_
      have hS : S_aloud P ds tl fn = (-3, tl, fndS 4 fn) := by unfold S_aloud; rw [if_neg (of_decide_eq_false (bI_eq c7)), if_pos ((nI_eq (by omega) (by decide)).mp (show nI (cntP (ftB P (evO P ds)) (5 ^ P.1)) = nI 0 from c27))]
      exact ⟨_, rfl, hF1.tr FrC.find, by rw [hS], by rw [hS]; exact hA1.find (by decide)⟩
  · skip
    refine g_bipush (v := -4) dX10_aloud_10 (by decide) ?_
    refine g_iret dX10_aloud_12 (fun ty h => by cases h; rfl) ?_
    have hS : S_aloud P ds tl fn = (-4, tl, fn) := by unfold S_aloud; rw [if_pos (of_decide_eq_true (bI_ne c7))]
    exact ⟨_, rfl, FrC.rf, by rw [hS], by rw [hS]; exact hA⟩
theorem pc_began {rw tx : Tab} {P : Pce} {ds : List Deed} {sh : Shf} {tl : Int32} {ch : Int64 × Int64} {fn : Fnd} (hA : AbsC rw tx P ds sh tl ch fn I J) (hO : StOK rw tx P ds sh) : Ct X (d + 6) 66 M_X10_began 66 [.ref 0] (I, J, rf0) (RI (fun y9 m => ∃ I', m = (I', J, rf0) ∧ FrC I I' ∧ y9 = (S_began P ds tl).1 ∧ AbsC rw tx P ds sh (S_began P ds tl).2 ch fn I' J)) := by
  have hP := hA.2.2.1
  have hQ := hO.2.2.1
  have h14 := hQ.2.1
  have h4 := hQ.1
  have hEv := hA.2.2.2.1
  have hD := hO.2.2.2.1
  have hE := hEv.2.2
  have hR : EvR (evO P ds) := EvR.e.run hQ hD.2
  have hP2 : EvP P (evO P ds) := EvP.e.run hD.2
  have h625 := p5 h4
  have htot := tot_lt hQ (evO P ds)
  show Go _ _ _ _ _ _ [_, _] _ _ _
  refine g_aload_n dX10_began_0 rfl ?_
  refine t_getR dX10_began_1 fl_X10_35 rfl (by decide) rfl (by decide) rfl ?_
  refine g_callVi dX10_began_4 ln_X10_215 ⟨_, rfl⟩ rfl (by decide) ⟨_, _, rfl⟩ rfl (Nat.le_of_ble_eq_true rfl) (Nat.le_of_ble_eq_true rfl) (ct_isEmpty hP hQ) rfl (fun r4 m4 h4 => ?_)
  obtain ⟨rfl, rfl⟩ := h4
  refine g_if_eq (tgt := 13) dX10_began_7 (by decide) (fun c7 => ?_) (fun c7 => ?_)
  · skip
    refine g_aload_n dX10_began_13 rfl ?_
    refine t_getR dX10_began_14 fl_X10_60 rfl (by decide) rfl (by decide) rfl ?_
    refine g_callVi dX10_began_17 ln_X10_272 ⟨_, rfl⟩ rfl (by decide) ⟨_, _, rfl⟩ rfl (Nat.le_of_ble_eq_true rfl) (Nat.le_of_ble_eq_true rfl) (ct_countBeg hP hQ hE hR hP2) rfl (fun r17 m17 h17 => ?_)
    obtain ⟨I1, rfl, hf1, rfl, h11⟩ := h17
    have hA1 : AbsC rw tx P ds sh tl ch fn I1 J := hA.scr (hf1.mono (by decide))
    have hF1 : FrC I I1 := FrC.of hf1 (by decide)
    refine g_istore_n dX10_began_20 (by decide) ?_
    show Go _ _ _ _ _ _ [_, _] _ _ _
    refine g_aload_n dX10_began_21 rfl ?_
    refine g_aload_n dX10_began_22 rfl ?_
    refine t_getR dX10_began_23 fl_X10_60 rfl (by decide) rfl (by decide) rfl ?_
    refine t_getI dX10_began_26 fl_X10_275 rfl (by decide) rfl (by decide) ?_
    rw [h11]
    refine t_putI dX10_began_29 fl_X10_111 rfl (by decide) rfl (by decide) ?_
    refine g_iload_n dX10_began_32 rfl ?_
    refine g_iret dX10_began_33 (fun ty h => by cases h; rfl) ?_
    have hS : S_began P ds tl = (nI (wyN P (evO P ds) ((evO P ds).1 - (evO P ds).2.1)), nI (bsN P (evO P ds) ((evO P ds).1 - (evO P ds).2.1))) := by unfold S_began; rw [if_neg (of_decide_eq_false (bI_eq c7))]
    exact ⟨_, rfl, hF1.up (by decide), by rw [hS], by rw [hS]; exact hA1.told⟩
  · skip
    refine g_bipush (v := -4) dX10_began_10 (by decide) ?_
    refine g_iret dX10_began_12 (fun ty h => by cases h; rfl) ?_
    have hS : S_began P ds tl = (-4, tl) := by unfold S_began; rw [if_pos (of_decide_eq_true (bI_ne c7))]
    exact ⟨_, rfl, FrC.rf, by rw [hS], by rw [hS]; exact hA⟩
end
