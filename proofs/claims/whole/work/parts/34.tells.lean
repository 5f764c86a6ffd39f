section
variable {X : Nat × (Nat → Int32)} {d : Nat} {I : Nat → Nat → Int32} {J : Nat → Nat → Int64}
/-! ===== promises 32 to 36, class side ===== -/
def mtF (P : Pce) (x n : Nat) : Nat := foldN (fun c a => a ||| 2 ^ hrS P (oC c) x) 0 n
theorem mtF_lt {P : Pce} (hO : PcOK P) (x : Nat) : ∀ n, mtF P x n < 2 ^ 64
  | 0 => by show (0 : Nat) < 2 ^ 64; decide
  | n + 1 => Nat.or_lt_two_pow (mtF_lt hO x n) (Nat.pow_lt_pow_right (by decide) (hrS_lt hO _ _))
def tlN (P : Pce) (x : Nat) : Nat := pop64 (mtF P x (5 ^ P.1))
theorem tlN_le (P : Pce) (x : Nat) : tlN P x ≤ 64 := cntP_le _ 64
def btF (P : Pce) (n : Nat) : Nat × Nat := foldN (fun x a => if a.2 < tlN P x then (x, tlN P x) else a) (0, 0) n
theorem btF_s (P : Pce) (n : Nat) : btF P (n + 1) = if (btF P n).2 < tlN P n then (n, tlN P n) else btF P n := rfl
theorem btF_le (P : Pce) : ∀ n, (btF P n).2 ≤ 64
  | 0 => by show (0 : Nat) ≤ 64; decide
  | n + 1 => by
    rw [btF_s]
    split
    · exact tlN_le P n
    · exact btF_le P n
def hdF (P : Pce) (p : Nat) (z : Int) (n : Nat) : Nat := foldN (fun x a => if hrS P (upR (fun _ => 0 : Nat → Int) p z) x = hrS P (fun _ => 0 : Nat → Int) x then a ||| 2 ^ x else a) 0 n
theorem hdF_s (P : Pce) (p : Nat) (z : Int) (n : Nat) : hdF P p z (n + 1) = if hrS P (upR (fun _ => 0 : Nat → Int) p z) n = hrS P (fun _ => 0 : Nat → Int) n then hdF P p z n ||| 2 ^ n else hdF P p z n := rfl
def nB (s h : Nat) : Bool := decide (¬ (nI s &&& (nI h ^^^ (-1))) = 0)
def tdB (P : Pce) (s : Nat) : Bool := decide (∀ p, p < P.1 → nB s (hdF P p (-1) P.2.1) = true ∧ nB s (hdF P p 1 P.2.1) = true)
def lsP (P : Pce) (ch k : Nat) (s : Nat) : Bool := decide (popN s = k) && tdB P (ch ||| s)
def lsF (P : Pce) (ch be k : Nat) : Option Nat := fstN (lsP P ch k) (2 ^ be)
def lsR (P : Pce) (ch be k : Nat) : Option Nat := (lsF P ch be k).map (fun s => ch ||| s)
def S_tells (P : Pce) (x : Int32) : Int32 := if inR x P.2.1 then nI (tlN P x.toNatClampNeg) else -1
def S_best (P : Pce) (tl : Int32) : Int32 × Int32 := if P.2.1 = 0 then (-4, tl) else (nI (btF P P.2.1).1, nI (btF P P.2.1).2)
def S_hides (P : Pce) (p e : Int32) : Int32 := if inR p P.1 && (decide (-2 ≤ e.toInt ∧ e.toInt ≤ 2) && decide (¬ e = 0)) then nI (hdF P p.toNatClampNeg e.toInt P.2.1) else -1
def S_fewest (P : Pce) (tl : Int32) : Int32 × Int32 := if P.2.1 = 0 then (-4, tl) else match lsR P 0 P.2.1 1 with
  | some s => (1, nI s)
  | none => match lsR P 0 P.2.1 2 with
    | some s => (2, nI s)
    | none => match lsR P 0 P.2.1 3 with
      | some s => (3, nI s)
      | none => (-9, tl)
def mdF (P : Pce) (n : Nat) : Nat × Nat := foldN (fun x a => if hrS P (fun _ => 0 : Nat → Int) x = 0 then a else (a.1 ||| 2 ^ x, if hrS P (upR (fun _ => 0 : Nat → Int) 0 (-1)) x = 0 then a.2 + 1 else a.2)) (0, 0) n
theorem mdF_s (P : Pce) (n : Nat) : mdF P (n + 1) = if hrS P (fun _ => 0 : Nat → Int) n = 0 then mdF P n else ((mdF P n).1 ||| 2 ^ n, if hrS P (upR (fun _ => 0 : Nat → Int) 0 (-1)) n = 0 then (mdF P n).2 + 1 else (mdF P n).2) := rfl
def S_modern (P : Pce) : Int32 × Int32 := (nI (mdF P P.2.1).1, nI (mdF P P.2.1).2)
theorem zI_i (e : Int32) : zI e.toInt = e := by
  apply Int32.toInt_inj.mp
  have a := Int32.le_toInt e
  have b := Int32.toInt_lt e
  rw [z_int (by omega)]
theorem or_b {a b n : Nat} (h1 : a < 2 ^ n) (h2 : b < 2 ^ n) : a ||| b < 2 ^ n := Nat.or_lt_two_pow h1 h2
theorem fst_add (p : Nat → Bool) (m : Nat) : ∀ n, fstN p (m + n) = match fstN p m with
    | some i => some i
    | none => (fstN (fun i => p (m + i)) n).map (fun i => m + i)
  | 0 => by
    show fstN p m = _
    cases fstN p m <;> rfl
  | n + 1 => by
    rw [← Nat.add_assoc, fstN_s, fst_add p m n, fstN_s]
    cases fstN p m with
    | some i => rfl
    | none =>
      dsimp only
      cases fstN (fun i => p (m + i)) n with
      | some i => rfl
      | none =>
        show (if p (m + n) then some (m + n) else none) = Option.map (fun i => m + i) (if p (m + n) then some n else none)
        cases p (m + n) <;> rfl
theorem fst_mono {p : Nat → Bool} {m n i : Nat} (h : fstN p m = some i) (hmn : m ≤ n) : fstN p n = some i := by
  rw [show n = m + (n - m) by omega, fst_add, h]
theorem fst_congr {p q : Nat → Bool} : ∀ {n : Nat}, (∀ i, i < n → p i = q i) → fstN p n = fstN q n
  | 0, _ => rfl
  | n + 1, h => by rw [fstN_s, fstN_s, fst_congr (n := n) (fun i hi => h i (by omega)), h n (by omega)]
theorem popN_0 {s : Nat} (h : s < 2 ^ 14) (h0 : popN s = 0) : s = 0 := by
  apply Nat.eq_of_testBit_eq
  intro i
  rw [Nat.zero_testBit]
  rcases Nat.lt_or_ge i 14 with q | q
  · exact cntP_zero h0 i q
  · exact Nat.testBit_lt_two_pow (Nat.lt_of_lt_of_le h (Nat.pow_le_pow_right (by decide) q))
theorem lsR_0 {P : Pce} {ch be : Nat} (hb : be ≤ 14) : lsR P ch be 0 = if tdB P ch then some ch else none := by
  have h2 : 2 ^ be ≤ 2 ^ 14 := Nat.pow_le_pow_right (by decide) hb
  have hp0 : lsP P ch 0 0 = tdB P ch := by unfold lsP; rw [decide_eq_true (show popN 0 = 0 by decide), Nat.or_zero]; rfl
  have hps : ∀ s, 0 < s → s < 2 ^ be → lsP P ch 0 s = false := fun s h1 h3 => by
    unfold lsP
    rw [decide_eq_false (fun q => by have := popN_0 (by omega) q; omega)]; rfl
  unfold lsR lsF
  cases ht : tdB P ch with
  | true => rw [fstN_some (i := 0) (hp0.trans ht) (fun j hj => absurd hj (Nat.not_lt_zero j)) (Nat.two_pow_pos be)]; show some (ch ||| 0) = _; rw [Nat.or_zero]; rfl
  | false =>
    rw [fstN_none (fun i hi => by
      rcases Nat.eq_zero_or_pos i with q | q
      · rw [q]; exact hp0.trans ht
      · exact hps i q hi)]
    rfl
theorem pop_add {x s : Nat} (hx : x < 14) (hs : s < 2 ^ x) : popN (2 ^ x + s) = popN s + 1 := by
  rw [show 2 ^ x + s = s ||| 2 ^ x by
    have := Nat.two_pow_add_eq_or_of_lt (i := x) hs 1
    rw [Nat.mul_one] at this
    rw [this, Nat.or_comm]]
  unfold popN
  rw [pop_or hx, show s.testBit x = false from Nat.testBit_lt_two_pow hs]
  rfl
theorem ls_step {P : Pce} {ch x k : Nat} (hx : x < 14) (h0 : lsF P ch x (k + 1) = none) : lsR P ch (x + 1) (k + 1) = lsR P (ch ||| 2 ^ x) x k := by
  have e : lsF P ch (x + 1) (k + 1) = (lsF P (ch ||| 2 ^ x) x k).map (fun i => 2 ^ x + i) := by
    show fstN (lsP P ch (k + 1)) (2 ^ (x + 1)) = _
    rw [Nat.pow_succ, Nat.mul_two, fst_add, show fstN (lsP P ch (k + 1)) (2 ^ x) = none from h0]
    dsimp only
    congr 1
    refine fst_congr (fun s hs => ?_)
    unfold lsP
    have e2 : 2 ^ x + s = 2 ^ x ||| s := by
      have := Nat.two_pow_add_eq_or_of_lt (i := x) hs 1
      rwa [Nat.mul_one] at this
    rw [pop_add hx hs, e2, Nat.or_assoc, show decide (popN s + 1 = k + 1) = decide (popN s = k) from decide_eq_decide.mpr (by omega)]
  unfold lsR
  rw [e]
  cases hh : lsF P (ch ||| 2 ^ x) x k with
  | none => rfl
  | some s =>
    have hs : s < 2 ^ x := (fstN_spec hh).1
    have e2 : 2 ^ x + s = 2 ^ x ||| s := by
      have := Nat.two_pow_add_eq_or_of_lt (i := x) hs 1
      rwa [Nat.mul_one] at this
    show some (ch ||| (2 ^ x + s)) = some ((ch ||| 2 ^ x) ||| s)
    rw [e2, Nat.or_assoc]
theorem ls_bd {P : Pce} {ch be k v : Nat} (hc : ch < 2 ^ 14) (hb : be ≤ 14) (h : lsR P ch be k = some v) : v < 2 ^ 14 := by
  unfold lsR at h
  cases hh : lsF P ch be k with
  | none => rw [hh] at h; cases h
  | some s =>
    rw [hh] at h
    cases h
    exact or_b hc (Nat.lt_of_lt_of_le (fstN_spec hh).1 (Nat.pow_le_pow_right (by decide) hb))
def hdA (P : Pce) (q : Nat) : Nat := if q < 2 * P.1 then hdF P (q / 2) (if q % 2 = 0 then -1 else 1) P.2.1 else 0
def taB (P : Pce) (s : Nat) : Bool := decide (∀ q : Nat, q < 8 → nB s (hdA P q) = true)
theorem td_all {P : Pce} {s : Nat} (h4 : P.1 ≤ 4) (hs : 0 < s) (hs2 : s < 2 ^ 31) : taB P s = tdB P s := by
  refine decide_eq_decide.mpr ⟨fun h p hp => ⟨?_, ?_⟩, fun h q hq => ?_⟩
  · have := h (2 * p) (by omega)
    unfold hdA at this
    rwa [if_pos (by omega), show 2 * p / 2 = p by omega, if_pos (by omega)] at this
  · have := h (2 * p + 1) (by omega)
    unfold hdA at this
    rwa [if_pos (by omega), show (2 * p + 1) / 2 = p by omega, if_neg (by omega)] at this
  · unfold hdA
    by_cases e : q < 2 * P.1
    · rw [if_pos e]
      have := h (q / 2) (by omega)
      split
      · exact this.1
      · exact this.2
    · rw [if_neg e]
      unfold nB
      refine decide_eq_true (fun z => ?_)
      rw [show (nI 0 ^^^ (-1) : Int32) = -1 by decide] at z
      have e3 : nI s &&& (-1) = nI s := by
        apply Int32.toBitVec_inj.mp
        show (nI s).toBitVec &&& (-1 : Int32).toBitVec = (nI s).toBitVec
        rw [show (-1 : Int32).toBitVec = BitVec.allOnes 32 by decide, BitVec.and_allOnes]
      rw [e3] at z
      exact nI_ne0 hs hs2 z
theorem PcC.t {P : Pce} {I' : Nat → Nat → Int32} (h : PcC P I) (hf : Fr [41, 42] I I') : PcC P I' := h.keep (by rw [hf 22 (by decide)]) (by rw [hf 22 (by decide)]) (hf 23 (by decide)) (hf 24 (by decide))
theorem Fr.t {I' : Nat → Nat → Int32} (h : Fr [41] I I') : Fr [41, 42] I I' := h.mono (by decide)
theorem ct_heardWith {P : Pce} (hP : PcC P I) (hO : PcOK P) {x p : Nat} {z : Int} (hx : x < P.2.1) (hp : p < 4) (hz : -2 ≤ z ∧ z ≤ 2) : Ct X (d + 3) 66 M_X8_heardWith 66 [.ref 40, .int (nI x), .int (nI p), .int (zI z)] (I, J, rf0) (RI (fun y9 m => ∃ I', m = (I', J, rf0) ∧ Fr [41] I I' ∧ y9 = nI (hrS P (upR (fun _ => 0 : Nat → Int) p z) x))) := by
  show Go _ _ _ _ _ _ [_, _, _, _] _ _ _
  refine g_aload_n dX8_heardWith_0 rfl ?_
  refine t_getR dX8_heardWith_1 fl_X8_9 rfl (by decide) rfl (by decide) rfl ?_
  refine g_iconst (v := 0) dX8_heardWith_4 (by decide) ?_
  refine g_callSv dX8_heardWith_5 ln_X8_22 rfl rfl (Nat.le_of_ble_eq_true rfl) (Nat.le_of_ble_eq_true rfl) (ct_fill0 (N := 66) (a := 41) (n := 4) rfl (by decide) (by decide)) rfl (fun m5 h5 => ?_)
  obtain ⟨g, rfl, hg, -⟩ := h5
  refine g_iload_n dX8_heardWith_8 rfl ?_
  refine g_if_lt (tgt := 28) dX8_heardWith_9 (by decide) (fun c9 => ?_) (fun c9 => ?_)
  · exact absurd c9 (nI_neg (by omega))
  · skip
    refine g_iload_n dX8_heardWith_12 rfl ?_
    refine g_aload_n dX8_heardWith_13 rfl ?_
    refine t_getR dX8_heardWith_14 fl_X8_9 rfl (by decide) rfl (by decide) rfl ?_
    refine t_alen dX8_heardWith_17 rfl (by decide) ?_
    refine g_icmp_ge (tgt := 28) dX8_heardWith_18 (by decide) (fun c18 => ?_) (fun c18 => ?_)
    · exact absurd (nI_lt hp (by decide)) (Int32.not_lt.mpr c18)
    · skip
      refine g_aload_n dX8_heardWith_21 rfl ?_
      refine t_getR dX8_heardWith_22 fl_X8_9 rfl (by decide) rfl (by decide) rfl ?_
      refine g_iload_n dX8_heardWith_25 rfl ?_
      refine g_iload_n dX8_heardWith_26 rfl ?_
      refine t_iast dX8_heardWith_27 rfl (by decide) (in_nI hp (by decide)) ?_
      rw [cl_nI (by omega)]
      refine g_abs (fun I3 => Fr [41] I I3 ∧ OuV 41 (upR (fun _ => 0 : Nat → Int) p z) I3) ⟨(Fr.rf.up (by decide)).up (by decide), fun q hq => ?_⟩ (fun I3 h3 => ?_)
      · rw [upR_s]
        by_cases e : q = p
        · rw [e, pk_us, upR_s]
        · rw [pk_un e, upR_s, upR_n e, hg q hq]; rfl
      obtain ⟨hf3a, ho3⟩ := h3
      have hf3 := hf3a.t
      refine g_aload_n dX8_heardWith_28 rfl ?_
      refine t_getR dX8_heardWith_29 fl_X8_18 rfl (by decide) rfl (by decide) rfl ?_
      refine g_iload_n dX8_heardWith_32 rfl ?_
      refine g_aload_n dX8_heardWith_33 rfl ?_
      refine t_getR dX8_heardWith_34 fl_X8_9 rfl (by decide) rfl (by decide) rfl ?_
      refine g_callVi dX8_heardWith_37 ln_X8_28 ⟨_, rfl⟩ rfl (by decide) ⟨_, _, rfl⟩ rfl (Nat.le_of_ble_eq_true rfl) (Nat.le_of_ble_eq_true rfl) (ct_heardOn (x := x) (hP.t hf3) hO hx (OuR1 (p := p) hz) (OA.of ho3 rfl (by decide))) rfl (fun r37 m37 h37 => ?_)
      obtain ⟨rfl, rfl⟩ := h37
      refine g_iret dX8_heardWith_40 (fun ty h => by cases h; rfl) ?_
      exact ⟨I3, rfl, hf3a, rfl⟩
theorem ct_unlike {P : Pce} (hP : PcC P I) (hO : PcOK P) {x : Nat} (hx : x < P.2.1) : Ct X (d + 3) 66 M_X8_unlike 66 [.ref 40, .int (nI x)] (I, J, rf0) (RI (fun y9 m => ∃ I', m = (I', J, rf0) ∧ Fr [41] I I' ∧ y9 = nI (tlN P x))) := by
  have h4 := hO.1
  have h625 := p5 h4
  show Go _ _ _ _ _ _ [_, _, _, _, _, _] _ _ _
  refine g_lconst (v := 0) dX8_unlike_0 (by decide) ?_
  refine g_lstore_n dX8_unlike_1 (by decide) ?_
  show Go _ _ _ _ _ _ [_, _, _, _, _, _] _ _ _
  refine g_aload_n dX8_unlike_2 rfl ?_
  refine t_getR dX8_unlike_3 fl_X8_18 rfl (by decide) rfl (by decide) rfl ?_
  refine t_getI dX8_unlike_6 fl_X8_34 rfl (by decide) rfl (by decide) ?_
  rw [hP.1]
  refine g_callSNi dX8_unlike_9 ln_X8_38 ⟨_, rfl⟩ rfl (Nat.le_of_ble_eq_true rfl) (Nat.le_of_ble_eq_true rfl) (ct_allOuts h4) rfl (fun r9 m9 h9 => ?_)
  obtain ⟨rfl, rfl⟩ := h9
  refine g_istore dX8_unlike_12 (by decide) ?_
  show Go _ _ _ _ _ _ [_, _, _, _, _, _] _ _ _
  refine g_iconst (v := 0) dX8_unlike_14 (by decide) ?_
  refine g_istore dX8_unlike_15 (by decide) ?_
  show Go _ _ _ _ _ _ [_, _, _, _, _, _] _ _ _
  refine go_mem (fun c I2 => Fr [41] I I2) (5 ^ P.1) (fun c I2 => Go X (d + 3) 66 M_X8_unlike 66 17 [.ref 40, .int (nI x), .long (lN (mtF P x c)), .null, .int (nI (5 ^ P.1)), .int (nI c)] [] (I2, J, rf0) (RI (fun y9 m => ∃ I', m = (I', J, rf0) ∧ Fr [41] I I' ∧ y9 = nI (tlN P x)))) (fun c I2 hc h9 kk => ?_) (fun I2 h9 => ?_) _ Fr.rf
  · skip
    refine g_iload dX8_unlike_17 rfl ?_
    refine g_iload dX8_unlike_19 rfl ?_
    refine g_icmp_ge (tgt := 56) dX8_unlike_21 (by decide) (fun c21 => ?_) (fun c21 => ?_)
    · exact absurd (nI_lt hc (by omega)) (Int32.not_lt.mpr c21)
    · skip
      refine g_iload dX8_unlike_24 rfl ?_
      refine g_aload_n dX8_unlike_26 rfl ?_
      refine t_getR dX8_unlike_27 fl_X8_9 rfl (by decide) rfl (by decide) rfl ?_
      refine g_callSNv dX8_unlike_30 ln_X8_42 rfl rfl (Nat.le_of_ble_eq_true rfl) (Nat.le_of_ble_eq_true rfl) (ct_spell (c := c) (k := 41) rfl (by decide) (by omega)) rfl (fun m30 h30 => ?_)
      obtain ⟨g, rfl, hg⟩ := h30
      have hf3 : Fr [41] I (upR I2 41 g) := h9.up (by decide)
      refine g_lload_n dX8_unlike_33 rfl ?_
      refine g_lconst (v := 1) dX8_unlike_34 (by decide) ?_
      refine g_aload_n dX8_unlike_35 rfl ?_
      refine t_getR dX8_unlike_36 fl_X8_18 rfl (by decide) rfl (by decide) rfl ?_
      refine g_iload_n dX8_unlike_39 rfl ?_
      refine g_aload_n dX8_unlike_40 rfl ?_
      refine t_getR dX8_unlike_41 fl_X8_9 rfl (by decide) rfl (by decide) rfl ?_
      refine g_callVi dX8_unlike_44 ln_X8_28 ⟨_, rfl⟩ rfl (by decide) ⟨_, _, rfl⟩ rfl (Nat.le_of_ble_eq_true rfl) (Nat.le_of_ble_eq_true rfl) (ct_heardOn (x := x) (hP.t hf3.t) hO hx (oC_R c) (OA.of (oc := 41) (o := oC c) (fun p hp => by rw [upR_s]; exact hg p hp) rfl (by decide))) rfl (fun r44 m44 h44 => ?_)
      obtain ⟨rfl, rfl⟩ := h44
      refine g_lshl dX8_unlike_47 ?_
      rw [shl1L _ (hrS_lt hO _ _)]
      refine g_lor dX8_unlike_48 ?_
      rw [or_lN]
      refine g_lstore_n dX8_unlike_49 (by decide) ?_
      show Go _ _ _ _ _ _ [_, _, _, _, _, _] _ _ _
      refine g_iinc dX8_unlike_50 rfl (by decide) ?_
      show Go _ _ _ _ _ _ [_, _, _, _, _, _] _ _ _
      refine g_goto (tgt := 17) dX8_unlike_53 (by decide) ?_
      rw [nI_inc]
      exact kk _ hf3
  · skip
    refine g_iload dX8_unlike_17 rfl ?_
    refine g_iload dX8_unlike_19 rfl ?_
    refine g_icmp_ge (tgt := 56) dX8_unlike_21 (by decide) (fun c21 => ?_) (fun c21 => ?_)
    · skip
      refine g_lload_n dX8_unlike_56 rfl ?_
      refine g_callSi dX8_unlike_57 ln_X8_46 ⟨_, rfl⟩ rfl (Nat.le_of_ble_eq_true rfl) (Nat.le_of_ble_eq_true rfl) (ct_bitCountL (mtF_lt hO x _)) rfl (fun r57 m57 h57 => ?_)
      obtain ⟨rfl, rfl⟩ := h57
      refine g_iret dX8_unlike_60 (fun ty h => by cases h; rfl) ?_
      exact ⟨I2, rfl, h9, rfl⟩
    · exact absurd (Int32.le_refl _) c21
theorem ct_hiding {P : Pce} (hP : PcC P I) (hO : PcOK P) {p : Nat} {z : Int} (hp : p < 4) (hz : -2 ≤ z ∧ z ≤ 2) : Ct X (d + 4) 66 M_X8_hiding 66 [.ref 40, .int (nI p), .int (zI z)] (I, J, rf0) (RI (fun y9 m => ∃ I', m = (I', J, rf0) ∧ Fr [41] I I' ∧ y9 = nI (hdF P p z P.2.1))) := by
  have h14 := hO.2.1
  show Go _ _ _ _ _ _ [_, _, _, _, _] _ _ _
  refine g_iconst (v := 0) dX8_hiding_0 (by decide) ?_
  refine g_istore_n dX8_hiding_1 (by decide) ?_
  show Go _ _ _ _ _ _ [_, _, _, _, _] _ _ _
  refine g_iconst (v := 0) dX8_hiding_2 (by decide) ?_
  refine g_istore dX8_hiding_3 (by decide) ?_
  show Go _ _ _ _ _ _ [_, _, _, _, _] _ _ _
  refine go_mem (fun x I2 => Fr [41] I I2) P.2.1 (fun x I2 => Go X (d + 4) 66 M_X8_hiding 66 5 [.ref 40, .int (nI p), .int (zI z), .int (nI (hdF P p z x)), .int (nI x)] [] (I2, J, rf0) (RI (fun y9 m => ∃ I', m = (I', J, rf0) ∧ Fr [41] I I' ∧ y9 = nI (hdF P p z P.2.1)))) (fun x I2 hx h9 kk => ?_) (fun I2 h9 => ?_) _ Fr.rf
  · skip
    refine g_iload dX8_hiding_5 rfl ?_
    refine g_aload_n dX8_hiding_7 rfl ?_
    refine t_getR dX8_hiding_8 fl_X8_18 rfl (by decide) rfl (by decide) rfl ?_
    refine t_getI dX8_hiding_11 fl_X8_52 rfl (by decide) rfl (by decide) ?_
    rw [h9 22 (by decide), hP.2.1]
    refine g_icmp_ge (tgt := 50) dX8_hiding_14 (by decide) (fun c14 => ?_) (fun c14 => ?_)
    · exact absurd (nI_lt hx (by omega)) (Int32.not_lt.mpr c14)
    · skip
      refine g_aload_n dX8_hiding_17 rfl ?_
      refine g_iload dX8_hiding_18 rfl ?_
      refine g_iload_n dX8_hiding_20 rfl ?_
      refine g_iload_n dX8_hiding_21 rfl ?_
      refine g_callVi dX8_hiding_22 ln_X8_55 ⟨_, rfl⟩ rfl (by decide) ⟨_, _, rfl⟩ rfl (Nat.le_of_ble_eq_true rfl) (Nat.le_of_ble_eq_true rfl) (ct_heardWith (x := x) (hP.t h9.t) hO hx hp hz) rfl (fun r22 m22 h22 => ?_)
      obtain ⟨I3, rfl, hf3, rfl⟩ := h22
      refine g_aload_n dX8_hiding_25 rfl ?_
      refine t_getR dX8_hiding_26 fl_X8_18 rfl (by decide) rfl (by decide) rfl ?_
      refine g_iload dX8_hiding_29 rfl ?_
      refine g_callVi dX8_hiding_31 ln_X8_59 ⟨_, rfl⟩ rfl (by decide) ⟨_, _, rfl⟩ rfl (Nat.le_of_ble_eq_true rfl) (Nat.le_of_ble_eq_true rfl) (ct_heardPlainly (hP.t (h9.trans hf3).t) hO hx) rfl (fun r31 m31 h31 => ?_)
      obtain ⟨rfl, rfl⟩ := h31
      refine g_icmp_ne (tgt := 44) dX8_hiding_34 (by decide) (fun c34 => ?_) (fun c34 => ?_)
      · skip
        refine g_iinc dX8_hiding_44 rfl (by decide) ?_
        show Go _ _ _ _ _ _ [_, _, _, _, _] _ _ _
        refine g_goto (tgt := 5) dX8_hiding_47 (by decide) ?_
        rw [nI_inc]
        rw [hdF_s] at kk
        have b1 := hrS_lt hO (upR (fun _ => 0 : Nat → Int) p z) x
        have b2 := hrS_lt hO (fun _ => 0 : Nat → Int) x
        first
          | (rw [if_pos ((nI_eq (by omega) (by omega)).mp c34)] at kk
             exact kk _ (h9.trans hf3))
          | (rw [if_neg (fun q => c34 (by rw [q]))] at kk
             exact kk _ (h9.trans hf3))
          | fail "no way"
      · skip
        refine g_iload_n dX8_hiding_37 rfl ?_
        refine g_iconst (v := 1) dX8_hiding_38 (by decide) ?_
        refine g_iload dX8_hiding_39 rfl ?_
        refine g_ishl dX8_hiding_41 ?_
        refine g_ior dX8_hiding_42 ?_
        rw [orbit (by omega)]
        refine g_istore_n dX8_hiding_43 (by decide) ?_
        show Go _ _ _ _ _ _ [_, _, _, _, _] _ _ _
        refine g_iinc dX8_hiding_44 rfl (by decide) ?_
        show Go _ _ _ _ _ _ [_, _, _, _, _] _ _ _
        refine g_goto (tgt := 5) dX8_hiding_47 (by decide) ?_
        rw [nI_inc]
        rw [hdF_s] at kk
        have b1 := hrS_lt hO (upR (fun _ => 0 : Nat → Int) p z) x
        have b2 := hrS_lt hO (fun _ => 0 : Nat → Int) x
        first
          | (rw [if_pos ((nI_eq (by omega) (by omega)).mp c34)] at kk
             exact kk _ (h9.trans hf3))
          | (rw [if_neg (fun q => c34 (by rw [q]))] at kk
             exact kk _ (h9.trans hf3))
          | fail "no way"
  · skip
    refine g_iload dX8_hiding_5 rfl ?_
    refine g_aload_n dX8_hiding_7 rfl ?_
    refine t_getR dX8_hiding_8 fl_X8_18 rfl (by decide) rfl (by decide) rfl ?_
    refine t_getI dX8_hiding_11 fl_X8_52 rfl (by decide) rfl (by decide) ?_
    rw [h9 22 (by decide), hP.2.1]
    refine g_icmp_ge (tgt := 50) dX8_hiding_14 (by decide) (fun c14 => ?_) (fun c14 => ?_)
    · skip
      refine g_iload_n dX8_hiding_50 rfl ?_
      refine g_iret dX8_hiding_51 (fun ty h => by cases h; rfl) ?_
      exact ⟨I2, rfl, h9, rfl⟩
    · exact absurd (Int32.le_refl _) c14
theorem ct_hidingM1 {P : Pce} (hP : PcC P I) (hO : PcOK P) {p : Nat} (hp : p < 4) : Ct X (d + 4) 66 M_X8_hiding 66 [.ref 40, .int (nI p), .int (-1)] (I, J, rf0) (RI (fun y9 m => ∃ I', m = (I', J, rf0) ∧ Fr [41] I I' ∧ y9 = nI (hdF P p (-1) P.2.1))) := by
  have := ct_hiding (X := X) (d := d) (J := J) (z := -1) hP hO hp (by decide)
  rwa [← z_m1] at this
theorem ix2 (p : Nat) : (2 : Int32) * nI p = nI (2 * p) := by rw [show (2 : Int32) = nI 2 from rfl, pk_mul]
def hdA2 (P : Pce) (p q : Nat) : Nat := if q < 2 * p then hdF P (q / 2) (if q % 2 = 0 then -1 else 1) P.2.1 else 0
theorem ct_learnHiding {P : Pce} (hP : PcC P I) (hO : PcOK P) : Ct X (d + 5) 66 M_X8_learnHiding 66 [.ref 40] (I, J, rf0) (RV (fun m => ∃ I', m = (I', J, rf0) ∧ Fr [41, 42] I I' ∧ ∀ q, q < 8 → I' 42 q = nI (hdA P q))) := by
  have h4 := hO.1
  show Go _ _ _ _ _ _ [_, _] _ _ _
  refine g_aload_n dX8_learnHiding_0 rfl ?_
  refine t_getR dX8_learnHiding_1 fl_X8_15 rfl (by decide) rfl (by decide) rfl ?_
  refine g_iconst (v := 0) dX8_learnHiding_4 (by decide) ?_
  refine g_callSv dX8_learnHiding_5 ln_X8_22 rfl rfl (Nat.le_of_ble_eq_true rfl) (Nat.le_of_ble_eq_true rfl) (ct_fill0 (N := 66) (a := 42) (n := 8) rfl (by decide) (by decide)) rfl (fun m5 h5 => ?_)
  obtain ⟨g, rfl, hg, -⟩ := h5
  refine g_iconst (v := 0) dX8_learnHiding_8 (by decide) ?_
  refine g_istore_n dX8_learnHiding_9 (by decide) ?_
  show Go _ _ _ _ _ _ [_, _] _ _ _
  refine go_mem (fun p I2 => Fr [41, 42] I I2 ∧ ∀ q, q < 8 → I2 42 q = nI (hdA2 P p q)) P.1 (fun p I2 => Go X (d + 5) 66 M_X8_learnHiding 66 10 [.ref 40, .int (nI p)] [] (I2, J, rf0) (RV (fun m => ∃ I', m = (I', J, rf0) ∧ Fr [41, 42] I I' ∧ ∀ q, q < 8 → I' 42 q = nI (hdA P q)))) (fun p I2 hp h9 kk => ?_) (fun I2 h9 => ?_) _ ⟨Fr.rf.up (by decide), fun q hq => by rw [upR_s, hg q hq]; unfold hdA2; rw [if_neg (by omega)]; rfl⟩
  · skip
    refine g_iload_n dX8_learnHiding_10 rfl ?_
    refine g_aload_n dX8_learnHiding_11 rfl ?_
    refine t_getR dX8_learnHiding_12 fl_X8_18 rfl (by decide) rfl (by decide) rfl ?_
    refine t_getI dX8_learnHiding_15 fl_X8_34 rfl (by decide) rfl (by decide) ?_
    rw [h9.1 22 (by decide), hP.1]
    refine g_icmp_ge (tgt := 57) dX8_learnHiding_18 (by decide) (fun c18 => ?_) (fun c18 => ?_)
    · exact absurd (nI_lt hp (by omega)) (Int32.not_lt.mpr c18)
    · skip
      refine g_aload_n dX8_learnHiding_21 rfl ?_
      refine t_getR dX8_learnHiding_22 fl_X8_15 rfl (by decide) rfl (by decide) rfl ?_
      refine g_iconst (v := 2) dX8_learnHiding_25 (by decide) ?_
      refine g_iload_n dX8_learnHiding_26 rfl ?_
      refine g_imul dX8_learnHiding_27 ?_
      rw [ix2]
      refine g_aload_n dX8_learnHiding_28 rfl ?_
      refine g_iload_n dX8_learnHiding_29 rfl ?_
      refine g_iconst (v := -1) dX8_learnHiding_30 (by decide) ?_
      refine g_callVi dX8_learnHiding_31 ln_X8_62 ⟨_, rfl⟩ rfl (by decide) ⟨_, _, rfl⟩ rfl (Nat.le_of_ble_eq_true rfl) (Nat.le_of_ble_eq_true rfl) (ct_hidingM1 (hP.t h9.1) hO (by omega)) rfl (fun r31 m31 h31 => ?_)
      obtain ⟨I3, rfl, hf3, rfl⟩ := h31
      refine t_iast dX8_learnHiding_34 rfl (by decide) (in_nI (by omega) (by decide)) ?_
      rw [cl_nI (by omega)]
      refine g_abs (fun I4 => Fr [41, 42] I I4 ∧ I4 42 (2 * p) = nI (hdF P p (-1) P.2.1) ∧ ∀ q, q < 8 → q ≠ 2 * p → I4 42 q = nI (hdA2 P p q)) ⟨(h9.1.trans hf3.t).up (by decide), by rw [upR_s, pk_us], fun q hq e => by rw [upR_s, pk_un e, hf3 42 (by decide)]; exact h9.2 q hq⟩ (fun I4 h4b => ?_)
      refine g_aload_n dX8_learnHiding_35 rfl ?_
      refine t_getR dX8_learnHiding_36 fl_X8_15 rfl (by decide) rfl (by decide) rfl ?_
      refine g_iconst (v := 2) dX8_learnHiding_39 (by decide) ?_
      refine g_iload_n dX8_learnHiding_40 rfl ?_
      refine g_imul dX8_learnHiding_41 ?_
      refine g_iconst (v := 1) dX8_learnHiding_42 (by decide) ?_
      refine g_iadd dX8_learnHiding_43 ?_
      rw [ix2, nI_1]
      refine g_aload_n dX8_learnHiding_44 rfl ?_
      refine g_iload_n dX8_learnHiding_45 rfl ?_
      refine g_iconst (v := 1) dX8_learnHiding_46 (by decide) ?_
      refine g_callVi dX8_learnHiding_47 ln_X8_62 ⟨_, rfl⟩ rfl (by decide) ⟨_, _, rfl⟩ rfl (Nat.le_of_ble_eq_true rfl) (Nat.le_of_ble_eq_true rfl) (ct_hiding (z := 1) (hP.t h4b.1) hO (by omega) (by decide)) rfl (fun r47 m47 h47 => ?_)
      obtain ⟨I5, rfl, hf5, rfl⟩ := h47
      refine t_iast dX8_learnHiding_50 rfl (by decide) (in_nI (by omega) (by decide)) ?_
      refine g_iinc dX8_learnHiding_51 rfl (by decide) ?_
      show Go _ _ _ _ _ _ [_, _] _ _ _
      refine g_goto (tgt := 10) dX8_learnHiding_54 (by decide) ?_
      rw [nI_inc, cl_nI (by omega)]
      refine kk _ ⟨(h4b.1.trans hf5.t).up (by decide), fun q hq => ?_⟩
      rw [upR_s]
      unfold hdA2
      by_cases e1 : q = 2 * p + 1
      · rw [e1, pk_us, if_pos (by omega), show (2 * p + 1) / 2 = p by omega, if_neg (by omega)]
      · rw [pk_un e1, hf5 42 (by decide)]
        by_cases e2 : q = 2 * p
        · rw [e2, h4b.2.1, if_pos (by omega), show 2 * p / 2 = p by omega, if_pos (by omega)]
        · rw [h4b.2.2 q hq e2]
          unfold hdA2
          by_cases e3 : q < 2 * p
          · rw [if_pos e3, if_pos (show q < 2 * (p + 1) by omega)]
          · rw [if_neg e3, if_neg (show ¬ q < 2 * (p + 1) by omega)]
  · skip
    refine g_iload_n dX8_learnHiding_10 rfl ?_
    refine g_aload_n dX8_learnHiding_11 rfl ?_
    refine t_getR dX8_learnHiding_12 fl_X8_18 rfl (by decide) rfl (by decide) rfl ?_
    refine t_getI dX8_learnHiding_15 fl_X8_34 rfl (by decide) rfl (by decide) ?_
    rw [h9.1 22 (by decide), hP.1]
    refine g_icmp_ge (tgt := 57) dX8_learnHiding_18 (by decide) (fun c18 => ?_) (fun c18 => ?_)
    · skip
      refine g_vret dX8_learnHiding_57 ?_
      exact ⟨I2, rfl, h9.1, h9.2⟩
    · exact absurd (Int32.le_refl _) c18
theorem ct_tellsAll {P : Pce} (hO : PcOK P) (hH : ∀ q, q < 8 → I 42 q = nI (hdA P q)) {s : Nat} : Ct X d 66 M_X8_tellsAll 66 [.ref 42, .int (nI s)] (I, J, rf0) (RI (fun y9 m => y9 = bI (taB P s) ∧ m = (I, J, rf0))) := by
  show Go _ _ _ _ _ _ [_, _, _, _, _, _] _ _ _
  refine g_aload_n dX8_tellsAll_0 rfl ?_
  refine g_astore_n dX8_tellsAll_1 (by decide) ?_
  show Go _ _ _ _ _ _ [_, _, _, _, _, _] _ _ _
  refine g_aload_n dX8_tellsAll_2 rfl ?_
  refine t_alen dX8_tellsAll_3 rfl (by decide) ?_
  refine g_istore_n dX8_tellsAll_4 (by decide) ?_
  show Go _ _ _ _ _ _ [_, _, _, _, _, _] _ _ _
  refine g_iconst (v := 0) dX8_tellsAll_5 (by decide) ?_
  refine g_istore dX8_tellsAll_6 (by decide) ?_
  show Go _ _ _ _ _ _ [_, _, _, _, _, _] _ _ _
  refine go_ix 8 (fun i => (∀ q, q < i → nB s (hdA P q) = true) → Go X d 66 M_X8_tellsAll 66 8 [.ref 42, .int (nI s), .ref 42, .int (nI 8), .int (nI i), .null] [] (I, J, rf0) (RI (fun y9 m => y9 = bI (taB P s) ∧ m = (I, J, rf0)))) (fun i hi kk hn => ?_) (fun hn => ?_) (fun q hq => absurd hq (Nat.not_lt_zero q))
  · skip
    refine g_iload dX8_tellsAll_8 rfl ?_
    refine g_iload_n dX8_tellsAll_10 rfl ?_
    refine g_icmp_ge (tgt := 37) dX8_tellsAll_11 (by decide) (fun c11 => ?_) (fun c11 => ?_)
    · exact absurd (nI_lt hi (by decide)) (Int32.not_lt.mpr c11)
    · skip
      refine g_aload_n dX8_tellsAll_14 rfl ?_
      refine g_iload dX8_tellsAll_15 rfl ?_
      refine t_iald dX8_tellsAll_17 rfl (by decide) (in_nI hi (by decide)) ?_
      rw [cl_nI (by omega), hH i hi]
      refine g_istore dX8_tellsAll_18 (by decide) ?_
      show Go _ _ _ _ _ _ [_, _, _, _, _, _] _ _ _
      refine g_iload_n dX8_tellsAll_20 rfl ?_
      refine g_iload dX8_tellsAll_21 rfl ?_
      refine g_iconst (v := -1) dX8_tellsAll_23 (by decide) ?_
      refine g_ixor dX8_tellsAll_24 ?_
      refine g_iand dX8_tellsAll_25 ?_
      refine g_if_ne (tgt := 31) dX8_tellsAll_26 (by decide) (fun c26 => ?_) (fun c26 => ?_)
      · skip
        refine g_iinc dX8_tellsAll_31 rfl (by decide) ?_
        show Go _ _ _ _ _ _ [_, _, _, _, _, _] _ _ _
        refine g_goto (tgt := 8) dX8_tellsAll_34 (by decide) ?_
        refine g_forget 5 ?_
        show Go _ _ _ _ _ _ [_, _, _, _, _, _] _ _ _
        rw [nI_inc]
        exact kk (fun q hq => by
          rcases Nat.lt_or_ge q i with q1 | q1
          · exact hn q q1
          · rw [show q = i by omega]; exact decide_eq_true c26)
      · skip
        refine g_iconst (v := 0) dX8_tellsAll_29 (by decide) ?_
        refine g_iret dX8_tellsAll_30 (fun ty h => by cases h; rfl) ?_
        refine ⟨?_, rfl⟩
        rw [show taB P s = false from decide_eq_false (fun q => of_decide_eq_true (q i hi) c26)]
        rfl
  · skip
    refine g_iload dX8_tellsAll_8 rfl ?_
    refine g_iload_n dX8_tellsAll_10 rfl ?_
    refine g_icmp_ge (tgt := 37) dX8_tellsAll_11 (by decide) (fun c11 => ?_) (fun c11 => ?_)
    · skip
      refine g_iconst (v := 1) dX8_tellsAll_37 (by decide) ?_
      refine g_iret dX8_tellsAll_38 (fun ty h => by cases h; rfl) ?_
      refine ⟨?_, rfl⟩
      rw [show taB P s = true from decide_eq_true hn]
      rfl
    · exact absurd (Int32.le_refl _) c11
theorem ct_leastSet0 {P : Pce} (hO : PcOK P) (hH : ∀ q, q < 8 → I 42 q = nI (hdA P q)) {ch be : Nat} (hch : 0 < ch) (hch2 : ch < 2 ^ 14) (hbe : be ≤ 14) : Ct X (d + 1) 66 M_X8_leastSet 66 [.ref 42, .int (nI ch), .int (nI be), .int (nI 0)] (I, J, rf0) (RI (fun y9 m => y9 = oI (lsR P ch be 0) ∧ m = (I, J, rf0))) := by
  show Go _ _ _ _ _ _ [_, _, _, _, _, _] _ _ _
  refine g_iload_n dX8_leastSet_0 rfl ?_
  refine g_if_gt (tgt := 19) dX8_leastSet_1 (by decide) (fun c1 => ?_) (fun c1 => ?_)
  · exact absurd c1 (by decide)
  · skip
    refine g_aload_n dX8_leastSet_4 rfl ?_
    refine g_iload_n dX8_leastSet_5 rfl ?_
    refine g_callSi dX8_leastSet_6 ln_X8_70 ⟨_, rfl⟩ rfl (Nat.le_of_ble_eq_true rfl) (Nat.le_of_ble_eq_true rfl) (ct_tellsAll hO hH) rfl (fun r6 m6 h6 => ?_)
    obtain ⟨rfl, rfl⟩ := h6
    rw [td_all hO.1 hch (by omega)]
    refine g_if_eq (tgt := 16) dX8_leastSet_9 (by decide) (fun c9 => ?_) (fun c9 => ?_)
    · skip
      refine g_bipush (v := -9) dX8_leastSet_16 (by decide) ?_
      refine g_iret dX8_leastSet_18 (fun ty h => by cases h; rfl) ?_
      refine ⟨?_, rfl⟩
      rw [lsR_0 hbe]
      first
        | (rw [bI_eq c9]; rfl)
        | (rw [bI_ne c9]; rfl)
        | fail "no way"
    · skip
      refine g_iload_n dX8_leastSet_12 rfl ?_
      refine g_goto (tgt := 18) dX8_leastSet_13 (by decide) ?_
      refine g_iret dX8_leastSet_18 (fun ty h => by cases h; rfl) ?_
      refine ⟨?_, rfl⟩
      rw [lsR_0 hbe]
      first
        | (rw [bI_eq c9]; rfl)
        | (rw [bI_ne c9]; rfl)
        | fail "no way"
theorem ct_leastSetS {P : Pce} {ch be k : Nat} (hch2 : ch < 2 ^ 14) (hbe : be ≤ 14) (hk : k < 100) (ih : ∀ x, x < be → Ct X d 66 M_X8_leastSet 66 [.ref 42, .int (nI (ch ||| 2 ^ x)), .int (nI x), .int (nI k)] (I, J, rf0) (RI (fun y9 m => y9 = oI (lsR P (ch ||| 2 ^ x) x k) ∧ m = (I, J, rf0)))) : Ct X (d + 1) 66 M_X8_leastSet 66 [.ref 42, .int (nI ch), .int (nI be), .int (nI (k + 1))] (I, J, rf0) (RI (fun y9 m => y9 = oI (lsR P ch be (k + 1)) ∧ m = (I, J, rf0))) := by
  show Go _ _ _ _ _ _ [_, _, _, _, _, _] _ _ _
  refine g_iload_n dX8_leastSet_0 rfl ?_
  refine g_if_gt (tgt := 19) dX8_leastSet_1 (by decide) (fun c1 => ?_) (fun c1 => ?_)
  · skip
    refine g_iconst (v := 0) dX8_leastSet_19 (by decide) ?_
    refine g_istore dX8_leastSet_20 (by decide) ?_
    show Go _ _ _ _ _ _ [_, _, _, _, _, _] _ _ _
    refine go_ix be (fun x => lsF P ch x (k + 1) = none → Go X (d + 1) 66 M_X8_leastSet 66 22 [.ref 42, .int (nI ch), .int (nI be), .int (nI (k + 1)), .int (nI x), .null] [] (I, J, rf0) (RI (fun y9 m => y9 = oI (lsR P ch be (k + 1)) ∧ m = (I, J, rf0)))) (fun x hx kk h0 => ?_) (fun h0 => ?_) (fstN_none (fun i hi => by
      have hi0 : i = 0 := by rw [Nat.pow_zero] at hi; omega
      rw [hi0]
      unfold lsP
      rw [decide_eq_false (show ¬ popN 0 = k + 1 by rw [show popN 0 = 0 by decide]; omega)]; rfl))
    · have hst := ls_step (P := P) (ch := ch) (k := k) (show x < 14 by omega) h0
      refine g_iload dX8_leastSet_22 rfl ?_
      refine g_iload_n dX8_leastSet_24 rfl ?_
      refine g_icmp_ge (tgt := 61) dX8_leastSet_25 (by decide) (fun c25 => ?_) (fun c25 => ?_)
      · exact absurd (nI_lt hx (by omega)) (Int32.not_lt.mpr c25)
      · skip
        refine g_aload_n dX8_leastSet_28 rfl ?_
        refine g_iload_n dX8_leastSet_29 rfl ?_
        refine g_iconst (v := 1) dX8_leastSet_30 (by decide) ?_
        refine g_iload dX8_leastSet_31 rfl ?_
        refine g_ishl dX8_leastSet_33 ?_
        refine g_ior dX8_leastSet_34 ?_
        rw [orbit (by omega)]
        refine g_iload dX8_leastSet_35 rfl ?_
        refine g_iload_n dX8_leastSet_37 rfl ?_
        refine g_iconst (v := 1) dX8_leastSet_38 (by decide) ?_
        refine g_isub dX8_leastSet_39 ?_
        rw [nI_pred]
        refine g_callSi dX8_leastSet_40 ln_X8_66 ⟨_, rfl⟩ rfl (Nat.le_of_ble_eq_true rfl) (Nat.le_of_ble_eq_true rfl) (ih x hx) rfl (fun r40 m40 h40 => ?_)
        obtain ⟨rfl, rfl⟩ := h40
        refine g_istore dX8_leastSet_43 (by decide) ?_
        show Go _ _ _ _ _ _ [_, _, _, _, _, _] _ _ _
        refine g_iload dX8_leastSet_45 rfl ?_
        refine g_bipush (v := -9) dX8_leastSet_47 (by decide) ?_
        refine g_icmp_eq (tgt := 55) dX8_leastSet_49 (by decide) (fun c49 => ?_) (fun c49 => ?_)
        · skip
          refine g_iinc dX8_leastSet_55 rfl (by decide) ?_
          show Go _ _ _ _ _ _ [_, _, _, _, _, _] _ _ _
          refine g_goto (tgt := 22) dX8_leastSet_58 (by decide) ?_
          refine g_forget 5 ?_
          show Go _ _ _ _ _ _ [_, _, _, _, _, _] _ _ _
          rw [nI_inc]
          refine kk ?_
          have hno : lsR P (ch ||| 2 ^ x) x k = none := by
            cases hh : lsR P (ch ||| 2 ^ x) x k with
            | none => rfl
            | some v =>
              rw [hh] at c49
              have hv := ls_bd (or_b hch2 (Nat.pow_lt_pow_right (by decide) (show x < 14 by omega))) (show x ≤ 14 by omega) hh
              have e := congrArg Int32.toInt (show nI v = -9 from c49)
              rw [nI_toInt (by omega), show (-9 : Int32).toInt = -9 by decide] at e
              omega
          rw [hno] at hst
          unfold lsR at hst
          exact Option.map_eq_none_iff.mp hst
        · skip
          refine g_iload dX8_leastSet_52 rfl ?_
          refine g_iret dX8_leastSet_54 (fun ty h => by cases h; rfl) ?_
          refine ⟨?_, rfl⟩
          cases hh : lsR P (ch ||| 2 ^ x) x k with
          | none => rw [hh] at c49; exact absurd rfl c49
          | some v =>
            rw [hh] at hst
            have e : lsR P ch be (k + 1) = some v := by
              unfold lsR at hst ⊢
              cases h9 : lsF P ch (x + 1) (k + 1) with
              | none => rw [h9] at hst; cases hst
              | some s =>
                rw [h9] at hst
                have : lsF P ch be (k + 1) = some s := fst_mono h9 (Nat.pow_le_pow_right (by decide) (by omega))
                rw [this]; exact hst
            rw [e]
    · skip
      refine g_iload dX8_leastSet_22 rfl ?_
      refine g_iload_n dX8_leastSet_24 rfl ?_
      refine g_icmp_ge (tgt := 61) dX8_leastSet_25 (by decide) (fun c25 => ?_) (fun c25 => ?_)
      · skip
        refine g_bipush (v := -9) dX8_leastSet_61 (by decide) ?_
        refine g_iret dX8_leastSet_63 (fun ty h => by cases h; rfl) ?_
        refine ⟨?_, rfl⟩
        unfold lsR
        rw [h0]
        rfl
      · exact absurd (Int32.le_refl _) c25
  · exact absurd (nI_lt (show 0 < k + 1 by omega) (by omega)) c1
theorem ct_leastSet {P : Pce} (hO : PcOK P) (hH : ∀ q, q < 8 → I 42 q = nI (hdA P q)) : ∀ (k ch be : Nat), k < 100 → (k = 0 → 0 < ch) → ch < 2 ^ 14 → be ≤ 14 → Ct X (d + k + 1) 66 M_X8_leastSet 66 [.ref 42, .int (nI ch), .int (nI be), .int (nI k)] (I, J, rf0) (RI (fun y9 m => y9 = oI (lsR P ch be k) ∧ m = (I, J, rf0)))
  | 0, ch, be, _, h0, h1, h2 => ct_leastSet0 hO hH (h0 rfl) h1 h2
  | k + 1, ch, be, hk, _, h1, h2 => ct_leastSetS (d := d + k + 1) h1 h2 (by omega) (fun x hx => ct_leastSet hO hH k (ch ||| 2 ^ x) x (by omega) (fun _ => Nat.lt_of_lt_of_le (Nat.two_pow_pos x) Nat.right_le_or) (or_b h1 (Nat.pow_lt_pow_right (by decide) (by omega))) (by omega))
theorem ct_leastTelling {P : Pce} (hO : PcOK P) (hH : ∀ q, q < 8 → I 42 q = nI (hdA P q)) (hP : PcC P I) {k : Nat} (hk1 : 1 ≤ k) (hk3 : k ≤ 3) : Ct X (d + 6) 66 M_X8_leastTelling 66 [.ref 40, .int (nI k)] (I, J, rf0) (RI (fun y9 m => y9 = oI (lsR P 0 P.2.1 k) ∧ m = (I, J, rf0))) := by
  show Go _ _ _ _ _ _ [_, _] _ _ _
  refine g_aload_n dX8_leastTelling_0 rfl ?_
  refine t_getR dX8_leastTelling_1 fl_X8_15 rfl (by decide) rfl (by decide) rfl ?_
  refine g_iconst (v := 0) dX8_leastTelling_4 (by decide) ?_
  refine g_aload_n dX8_leastTelling_5 rfl ?_
  refine t_getR dX8_leastTelling_6 fl_X8_18 rfl (by decide) rfl (by decide) rfl ?_
  refine t_getI dX8_leastTelling_9 fl_X8_52 rfl (by decide) rfl (by decide) ?_
  rw [hP.2.1]
  refine g_iload_n dX8_leastTelling_12 rfl ?_
  refine g_callSi dX8_leastTelling_13 ln_X8_66 ⟨_, rfl⟩ rfl (Nat.le_of_ble_eq_true rfl) (Nat.le_of_ble_eq_true rfl) (Go.deeper (ct_leastSet (d := d) hO hH k 0 P.2.1 (by omega) (by omega) (by decide) hO.2.1) (by omega)) rfl (fun r13 m13 h13 => ?_)
  obtain ⟨rfl, rfl⟩ := h13
  refine g_iret dX8_leastTelling_16 (fun ty h => by cases h; rfl) ?_
  exact ⟨rfl, rfl⟩
theorem AbsC.t {rw tx : Tab} {P : Pce} {ds : List Deed} {sh : Shf} {tl : Int32} {ch : Int64 × Int64} {fn : Fnd} {I' : Nat → Nat → Int32} (h : AbsC rw tx P ds sh tl ch fn I J) (hf : Fr [41, 42] I I') : AbsC rw tx P ds sh tl ch fn I' J := h.scr (hf.mono (by decide))
theorem FrC.t {I' : Nat → Nat → Int32} (hf : Fr [41, 42] I I') : FrC I I' := FrC.of hf (by decide)
theorem pc_tells {rw tx : Tab} {P : Pce} {ds : List Deed} {sh : Shf} {tl : Int32} {ch : Int64 × Int64} {fn : Fnd} {x : Int32} (hA : AbsC rw tx P ds sh tl ch fn I J) (hO : StOK rw tx P ds sh) : Ct X (d + 4) 66 M_X10_tells 66 [.ref 0, .int x] (I, J, rf0) (RI (fun y9 m => ∃ I', m = (I', J, rf0) ∧ FrC I I' ∧ y9 = S_tells P x ∧ AbsC rw tx P ds sh tl ch fn I' J)) := by
  have hP := hA.2.2.1
  have hQ := hO.2.2.1
  have h14 := hQ.2.1
  have h4 := hQ.1
  show Go _ _ _ _ _ _ [_, _] _ _ _
  refine g_aload_n dX10_tells_0 rfl ?_
  refine t_getR dX10_tells_1 fl_X10_35 rfl (by decide) rfl (by decide) rfl ?_
  refine g_iload_n dX10_tells_4 rfl ?_
  refine g_callVi dX10_tells_5 ln_X10_168 ⟨_, rfl⟩ rfl (by decide) ⟨_, _, rfl⟩ rfl (Nat.le_of_ble_eq_true rfl) (Nat.le_of_ble_eq_true rfl) (ct_hasPlace hP) rfl (fun r5 m5 h5 => ?_)
  obtain ⟨rfl, rfl⟩ := h5
  refine g_if_ne (tgt := 13) dX10_tells_8 (by decide) (fun c8 => ?_) (fun c8 => ?_)
  · skip
    have q1 := bI_ne c8
    obtain ⟨x, hx, rfl⟩ := inR_ix (by omega) q1
    refine g_aload_n dX10_tells_13 rfl ?_
    refine t_getR dX10_tells_14 fl_X10_67 rfl (by decide) rfl (by decide) rfl ?_
    refine g_iload_n dX10_tells_17 rfl ?_
    refine g_callVi dX10_tells_18 ln_X10_278 ⟨_, rfl⟩ rfl (by decide) ⟨_, _, rfl⟩ rfl (Nat.le_of_ble_eq_true rfl) (Nat.le_of_ble_eq_true rfl) (ct_unlike hP hQ hx) rfl (fun r18 m18 h18 => ?_)
    obtain ⟨I1, rfl, hf1, rfl⟩ := h18
    refine g_iret dX10_tells_21 (fun ty h => by cases h; rfl) ?_
    exact ⟨I1, rfl, FrC.t hf1.t, by unfold S_tells; rw [q1, cl_nI (by omega)]; rfl, hA.t hf1.t⟩
  · skip
    refine g_iconst (v := -1) dX10_tells_11 (by decide) ?_
    refine g_iret dX10_tells_12 (fun ty h => by cases h; rfl) ?_
    exact ⟨_, rfl, FrC.rf, by unfold S_tells; rw [bI_eq c8]; rfl, hA⟩
theorem pc_best {rw tx : Tab} {P : Pce} {ds : List Deed} {sh : Shf} {tl : Int32} {ch : Int64 × Int64} {fn : Fnd} (hA : AbsC rw tx P ds sh tl ch fn I J) (hO : StOK rw tx P ds sh) : Ct X (d + 4) 66 M_X10_best 66 [.ref 0] (I, J, rf0) (RI (fun y9 m => ∃ I', m = (I', J, rf0) ∧ FrC I I' ∧ y9 = (S_best P tl).1 ∧ AbsC rw tx P ds sh (S_best P tl).2 ch fn I' J)) := by
  have hP := hA.2.2.1
  have hQ := hO.2.2.1
  have h14 := hQ.2.1
  have h4 := hQ.1
  show Go _ _ _ _ _ _ [_, _, _, _, _] _ _ _
  refine g_aload_n dX10_best_0 rfl ?_
  refine t_getR dX10_best_1 fl_X10_35 rfl (by decide) rfl (by decide) rfl ?_
  refine g_callVi dX10_best_4 ln_X10_215 ⟨_, rfl⟩ rfl (by decide) ⟨_, _, rfl⟩ rfl (Nat.le_of_ble_eq_true rfl) (Nat.le_of_ble_eq_true rfl) (ct_isEmpty hP hQ) rfl (fun r4 m4 h4 => ?_)
  obtain ⟨rfl, rfl⟩ := h4
  refine g_if_eq (tgt := 13) dX10_best_7 (by decide) (fun c7 => ?_) (fun c7 => ?_)
  · skip
    refine g_iconst (v := 0) dX10_best_13 (by decide) ?_
    refine g_istore_n dX10_best_14 (by decide) ?_
    show Go _ _ _ _ _ _ [_, _, _, _, _] _ _ _
    refine g_iconst (v := 0) dX10_best_15 (by decide) ?_
    refine g_istore_n dX10_best_16 (by decide) ?_
    show Go _ _ _ _ _ _ [_, _, _, _, _] _ _ _
    refine g_iconst (v := 0) dX10_best_17 (by decide) ?_
    refine g_istore_n dX10_best_18 (by decide) ?_
    show Go _ _ _ _ _ _ [_, _, _, _, _] _ _ _
    refine go_mem (fun x I2 => Fr [41] I I2) P.2.1 (fun x I2 => Go X (d + 4) 66 M_X10_best 66 19 [.ref 0, .int (nI (btF P x).1), .int (nI (btF P x).2), .int (nI x), .null] [] (I2, J, rf0) (RI (fun y9 m => ∃ I', m = (I', J, rf0) ∧ FrC I I' ∧ y9 = (S_best P tl).1 ∧ AbsC rw tx P ds sh (S_best P tl).2 ch fn I' J))) (fun x I2 hx h9 kk => ?_) (fun I2 h9 => ?_) _ Fr.rf
    · skip
      refine g_iload_n dX10_best_19 rfl ?_
      refine g_aload_n dX10_best_20 rfl ?_
      refine t_getR dX10_best_21 fl_X10_35 rfl (by decide) rfl (by decide) rfl ?_
      refine t_getI dX10_best_24 fl_X10_165 rfl (by decide) rfl (by decide) ?_
      rw [h9 22 (by decide), hP.2.1]
      refine g_icmp_ge (tgt := 57) dX10_best_27 (by decide) (fun c27 => ?_) (fun c27 => ?_)
      · exact absurd (nI_lt hx (by omega)) (Int32.not_lt.mpr c27)
      · skip
        refine g_aload_n dX10_best_30 rfl ?_
        refine t_getR dX10_best_31 fl_X10_67 rfl (by decide) rfl (by decide) rfl ?_
        refine g_iload_n dX10_best_34 rfl ?_
        refine g_callVi dX10_best_35 ln_X10_278 ⟨_, rfl⟩ rfl (by decide) ⟨_, _, rfl⟩ rfl (Nat.le_of_ble_eq_true rfl) (Nat.le_of_ble_eq_true rfl) (ct_unlike (x := x) (hP.t h9.t) hQ hx) rfl (fun r35 m35 h35 => ?_)
        obtain ⟨I3, rfl, hf3, rfl⟩ := h35
        refine g_istore dX10_best_38 (by decide) ?_
        show Go _ _ _ _ _ _ [_, _, _, _, _] _ _ _
        refine g_iload dX10_best_40 rfl ?_
        refine g_iload_n dX10_best_42 rfl ?_
        refine g_icmp_le (tgt := 51) dX10_best_43 (by decide) (fun c43 => ?_) (fun c43 => ?_)
        · skip
          refine g_iinc dX10_best_51 rfl (by decide) ?_
          show Go _ _ _ _ _ _ [_, _, _, _, _] _ _ _
          refine g_goto (tgt := 19) dX10_best_54 (by decide) ?_
          refine g_forget 4 ?_
          show Go _ _ _ _ _ _ [_, _, _, _, _] _ _ _
          rw [nI_inc]
          rw [btF_s] at kk
          have b1 := btF_le P x
          have b2 := tlN_le P x
          first
            | (rw [if_pos ((nI_ltI (by omega) (by omega)).mp (Int32.not_le.mp c43))] at kk
               exact kk _ (h9.trans hf3))
            | (rw [if_neg (fun q => absurd (nI_lt q (by omega)) (Int32.not_lt.mpr c43))] at kk
               exact kk _ (h9.trans hf3))
            | fail "no way"
        · skip
          refine g_iload dX10_best_46 rfl ?_
          refine g_istore_n dX10_best_48 (by decide) ?_
          show Go _ _ _ _ _ _ [_, _, _, _, _] _ _ _
          refine g_iload_n dX10_best_49 rfl ?_
          refine g_istore_n dX10_best_50 (by decide) ?_
          show Go _ _ _ _ _ _ [_, _, _, _, _] _ _ _
          refine g_iinc dX10_best_51 rfl (by decide) ?_
          show Go _ _ _ _ _ _ [_, _, _, _, _] _ _ _
          refine g_goto (tgt := 19) dX10_best_54 (by decide) ?_
          refine g_forget 4 ?_
          show Go _ _ _ _ _ _ [_, _, _, _, _] _ _ _
          rw [nI_inc]
          rw [btF_s] at kk
          have b1 := btF_le P x
          have b2 := tlN_le P x
          first
            | (rw [if_pos ((nI_ltI (by omega) (by omega)).mp (Int32.not_le.mp c43))] at kk
               exact kk _ (h9.trans hf3))
            | (rw [if_neg (fun q => absurd (nI_lt q (by omega)) (Int32.not_lt.mpr c43))] at kk
               exact kk _ (h9.trans hf3))
            | fail "no way"
    · skip
      refine g_iload_n dX10_best_19 rfl ?_
      refine g_aload_n dX10_best_20 rfl ?_
      refine t_getR dX10_best_21 fl_X10_35 rfl (by decide) rfl (by decide) rfl ?_
      refine t_getI dX10_best_24 fl_X10_165 rfl (by decide) rfl (by decide) ?_
      rw [h9 22 (by decide), hP.2.1]
      refine g_icmp_ge (tgt := 57) dX10_best_27 (by decide) (fun c27 => ?_) (fun c27 => ?_)
      · skip
        refine g_aload_n dX10_best_57 rfl ?_
        refine g_iload_n dX10_best_58 rfl ?_
        refine t_putI dX10_best_59 fl_X10_111 rfl (by decide) rfl (by decide) ?_
        refine g_iload_n dX10_best_62 rfl ?_
        refine g_iret dX10_best_63 (fun ty h => by cases h; rfl) ?_
        have hS : S_best P tl = (nI (btF P P.2.1).1, nI (btF P P.2.1).2) := by unfold S_best; rw [if_neg (of_decide_eq_false (bI_eq c7))]
        exact ⟨_, rfl, (FrC.t h9.t).up (by decide), by rw [hS], by rw [hS]; exact (hA.t h9.t).told⟩
      · exact absurd (Int32.le_refl _) c27
  · skip
    refine g_bipush (v := -4) dX10_best_10 (by decide) ?_
    refine g_iret dX10_best_12 (fun ty h => by cases h; rfl) ?_
    have hS : S_best P tl = (-4, tl) := by unfold S_best; rw [if_pos (of_decide_eq_true (bI_ne c7))]
    exact ⟨_, rfl, FrC.rf, by rw [hS], by rw [hS]; exact hA⟩
theorem pc_hides {rw tx : Tab} {P : Pce} {ds : List Deed} {sh : Shf} {tl : Int32} {ch : Int64 × Int64} {fn : Fnd} {p e : Int32} (hA : AbsC rw tx P ds sh tl ch fn I J) (hO : StOK rw tx P ds sh) : Ct X (d + 5) 66 M_X10_hides 66 [.ref 0, .int p, .int e] (I, J, rf0) (RI (fun y9 m => ∃ I', m = (I', J, rf0) ∧ FrC I I' ∧ y9 = S_hides P p e ∧ AbsC rw tx P ds sh tl ch fn I' J)) := by
  have hP := hA.2.2.1
  have hQ := hO.2.2.1
  have h14 := hQ.2.1
  have h4 := hQ.1
  have zm2 : (-2 : Int32).toInt = -2 := by decide
  have z2 : (2 : Int32).toInt = 2 := by decide
  show Go _ _ _ _ _ _ [_, _, _] _ _ _
  refine g_aload_n dX10_hides_0 rfl ?_
  refine t_getR dX10_hides_1 fl_X10_35 rfl (by decide) rfl (by decide) rfl ?_
  refine g_iload_n dX10_hides_4 rfl ?_
  refine g_callVi dX10_hides_5 ln_X10_174 ⟨_, rfl⟩ rfl (by decide) ⟨_, _, rfl⟩ rfl (Nat.le_of_ble_eq_true rfl) (Nat.le_of_ble_eq_true rfl) (ct_hasPlayer hP) rfl (fun r5 m5 h5 => ?_)
  obtain ⟨rfl, rfl⟩ := h5
  refine g_if_eq (tgt := 26) dX10_hides_8 (by decide) (fun c8 => ?_) (fun c8 => ?_)
  · skip
    refine g_iconst (v := -1) dX10_hides_26 (by decide) ?_
    refine g_iret dX10_hides_27 (fun ty h => by cases h; rfl) ?_
    refine ⟨_, rfl, FrC.rf, ?_, hA⟩
    unfold S_hides
    first
      | (rw [bI_eq c8]; rfl)
      | (rw [decide_eq_false (fun q => by
           have a := c14
           rw [Int32.lt_iff_toInt_lt, zm2] at a
           omega), Bool.false_and, Bool.and_false]; rfl)
      | (rw [decide_eq_false (fun q => by
           have a := c19
           rw [Int32.lt_iff_toInt_lt, z2] at a
           omega), Bool.false_and, Bool.and_false]; rfl)
      | (rw [show decide (¬ e = 0) = false from decide_eq_false (not_not_intro c23), Bool.and_false, Bool.and_false]; rfl)
      | fail "no way"
  · skip
    refine g_iload_n dX10_hides_11 rfl ?_
    refine g_bipush (v := -2) dX10_hides_12 (by decide) ?_
    refine g_icmp_lt (tgt := 26) dX10_hides_14 (by decide) (fun c14 => ?_) (fun c14 => ?_)
    · skip
      refine g_iconst (v := -1) dX10_hides_26 (by decide) ?_
      refine g_iret dX10_hides_27 (fun ty h => by cases h; rfl) ?_
      refine ⟨_, rfl, FrC.rf, ?_, hA⟩
      unfold S_hides
      first
        | (rw [bI_eq c8]; rfl)
        | (rw [decide_eq_false (fun q => by
             have a := c14
             rw [Int32.lt_iff_toInt_lt, zm2] at a
             omega), Bool.false_and, Bool.and_false]; rfl)
        | (rw [decide_eq_false (fun q => by
             have a := c19
             rw [Int32.lt_iff_toInt_lt, z2] at a
             omega), Bool.false_and, Bool.and_false]; rfl)
        | (rw [show decide (¬ e = 0) = false from decide_eq_false (not_not_intro c23), Bool.and_false, Bool.and_false]; rfl)
        | fail "no way"
    · skip
      refine g_iload_n dX10_hides_17 rfl ?_
      refine g_iconst (v := 2) dX10_hides_18 (by decide) ?_
      refine g_icmp_gt (tgt := 26) dX10_hides_19 (by decide) (fun c19 => ?_) (fun c19 => ?_)
      · skip
        refine g_iconst (v := -1) dX10_hides_26 (by decide) ?_
        refine g_iret dX10_hides_27 (fun ty h => by cases h; rfl) ?_
        refine ⟨_, rfl, FrC.rf, ?_, hA⟩
        unfold S_hides
        first
          | (rw [bI_eq c8]; rfl)
          | (rw [decide_eq_false (fun q => by
               have a := c14
               rw [Int32.lt_iff_toInt_lt, zm2] at a
               omega), Bool.false_and, Bool.and_false]; rfl)
          | (rw [decide_eq_false (fun q => by
               have a := c19
               rw [Int32.lt_iff_toInt_lt, z2] at a
               omega), Bool.false_and, Bool.and_false]; rfl)
          | (rw [show decide (¬ e = 0) = false from decide_eq_false (not_not_intro c23), Bool.and_false, Bool.and_false]; rfl)
          | fail "no way"
      · skip
        refine g_iload_n dX10_hides_22 rfl ?_
        refine g_if_ne (tgt := 28) dX10_hides_23 (by decide) (fun c23 => ?_) (fun c23 => ?_)
        · skip
          have q1 := bI_ne c8
          obtain ⟨p, hp, rfl⟩ := inR_ix (by omega) q1
          have hz : -2 ≤ e.toInt ∧ e.toInt ≤ 2 := by
            have a := Int32.not_lt.mp c14
            have b := Int32.not_lt.mp c19
            rw [Int32.le_iff_toInt_le, zm2] at a
            rw [Int32.le_iff_toInt_le, z2] at b
            exact ⟨a, b⟩
          obtain ⟨z, hze⟩ : ∃ z, z = e.toInt := ⟨_, rfl⟩
          rw [← hze] at hz
          have hez : e = zI z := by rw [hze, zI_i]
          rw [hez]
          show Go _ _ _ _ _ _ [_, _, .int (zI z)] _ _ _
          refine g_aload_n dX10_hides_28 rfl ?_
          refine t_getR dX10_hides_29 fl_X10_67 rfl (by decide) rfl (by decide) rfl ?_
          refine g_iload_n dX10_hides_32 rfl ?_
          refine g_iload_n dX10_hides_33 rfl ?_
          refine g_callVi dX10_hides_34 ln_X10_281 ⟨_, rfl⟩ rfl (by decide) ⟨_, _, rfl⟩ rfl (Nat.le_of_ble_eq_true rfl) (Nat.le_of_ble_eq_true rfl) (ct_hiding (hP.t Fr.rf) hQ (by omega) hz) rfl (fun r34 m34 h34 => ?_)
          obtain ⟨I1, rfl, hf1, rfl⟩ := h34
          refine g_iret dX10_hides_37 (fun ty h => by cases h; rfl) ?_
          refine ⟨I1, rfl, FrC.t hf1.t, ?_, hA.t hf1.t⟩
          unfold S_hides
          rw [q1, z_int (by omega), decide_eq_true hz, decide_eq_true (show ¬ zI z = 0 by rw [← hez]; exact c23), cl_nI (by omega)]
          rfl
        · skip
          refine g_iconst (v := -1) dX10_hides_26 (by decide) ?_
          refine g_iret dX10_hides_27 (fun ty h => by cases h; rfl) ?_
          refine ⟨_, rfl, FrC.rf, ?_, hA⟩
          unfold S_hides
          first
            | (rw [bI_eq c8]; rfl)
            | (rw [decide_eq_false (fun q => by
                 have a := c14
                 rw [Int32.lt_iff_toInt_lt, zm2] at a
                 omega), Bool.false_and, Bool.and_false]; rfl)
            | (rw [decide_eq_false (fun q => by
                 have a := c19
                 rw [Int32.lt_iff_toInt_lt, z2] at a
                 omega), Bool.false_and, Bool.and_false]; rfl)
            | (rw [show decide (¬ e = 0) = false from decide_eq_false (not_not_intro c23), Bool.and_false, Bool.and_false]; rfl)
            | fail "no way"
theorem few_at {P : Pce} {tl : Int32} {i s : Nat} (hne : ¬ P.2.1 = 0) (hi : i < 3) (h : ∀ j, j < i → lsR P 0 P.2.1 (j + 1) = none) (hs : lsR P 0 P.2.1 (i + 1) = some s) : S_fewest P tl = (nI (i + 1), nI s) := by
  unfold S_fewest
  rw [if_neg hne]
  rcases (show i = 0 ∨ i = 1 ∨ i = 2 by omega) with rfl | rfl | rfl
  · rw [hs]; rfl
  · rw [h 0 (by omega)]; dsimp only; rw [hs]; rfl
  · rw [h 0 (by omega)]; dsimp only; rw [h 1 (by omega)]; dsimp only; rw [hs]; rfl
theorem few_no {P : Pce} {tl : Int32} (hne : ¬ P.2.1 = 0) (h : ∀ j, j < 3 → lsR P 0 P.2.1 (j + 1) = none) : S_fewest P tl = (-9, tl) := by
  unfold S_fewest
  rw [if_neg hne, h 0 (by omega)]; dsimp only; rw [h 1 (by omega)]; dsimp only; rw [h 2 (by omega)]
theorem ls_9 {P : Pce} {k : Nat} (h14 : P.2.1 ≤ 14) (h : oI (lsR P 0 P.2.1 k) = -9) : lsR P 0 P.2.1 k = none := by
  cases hh : lsR P 0 P.2.1 k with
  | none => rfl
  | some v =>
    rw [hh] at h
    have hv := ls_bd (by decide) h14 hh
    have e := congrArg Int32.toInt (show nI v = -9 from h)
    rw [nI_toInt (by omega), show (-9 : Int32).toInt = -9 by decide] at e
    omega
theorem pc_fewest {rw tx : Tab} {P : Pce} {ds : List Deed} {sh : Shf} {tl : Int32} {ch : Int64 × Int64} {fn : Fnd} (hA : AbsC rw tx P ds sh tl ch fn I J) (hO : StOK rw tx P ds sh) : Ct X (d + 7) 66 M_X10_fewest 66 [.ref 0] (I, J, rf0) (RI (fun y9 m => ∃ I', m = (I', J, rf0) ∧ FrC I I' ∧ y9 = (S_fewest P tl).1 ∧ AbsC rw tx P ds sh (S_fewest P tl).2 ch fn I' J)) := by
  have hP := hA.2.2.1
  have hQ := hO.2.2.1
  have h14 := hQ.2.1
  have h4 := hQ.1
  show Go _ _ _ _ _ _ [_, _, _] _ _ _
  refine g_aload_n dX10_fewest_0 rfl ?_
  refine t_getR dX10_fewest_1 fl_X10_35 rfl (by decide) rfl (by decide) rfl ?_
  refine g_callVi dX10_fewest_4 ln_X10_215 ⟨_, rfl⟩ rfl (by decide) ⟨_, _, rfl⟩ rfl (Nat.le_of_ble_eq_true rfl) (Nat.le_of_ble_eq_true rfl) (ct_isEmpty hP hQ) rfl (fun r4 m4 h4 => ?_)
  obtain ⟨rfl, rfl⟩ := h4
  refine g_if_eq (tgt := 13) dX10_fewest_7 (by decide) (fun c7 => ?_) (fun c7 => ?_)
  · skip
    refine g_aload_n dX10_fewest_13 rfl ?_
    refine t_getR dX10_fewest_14 fl_X10_67 rfl (by decide) rfl (by decide) rfl ?_
    refine g_callVv dX10_fewest_17 ln_X10_284 rfl rfl (by decide) ⟨_, _, rfl⟩ rfl (Nat.le_of_ble_eq_true rfl) (Nat.le_of_ble_eq_true rfl) (ct_learnHiding hP hQ) rfl (fun m17 h17 => ?_)
    obtain ⟨I1, rfl, hf1, hH⟩ := h17
    have hA1 := hA.t hf1
    refine g_iconst (v := 1) dX10_fewest_20 (by decide) ?_
    refine g_istore_n dX10_fewest_21 (by decide) ?_
    show Go _ _ _ _ _ _ [_, _, _] _ _ _
    refine go_ix 3 (fun i => (∀ j, j < i → lsR P 0 P.2.1 (j + 1) = none) → Go X (d + 7) 66 M_X10_fewest 66 22 [.ref 0, .int (nI (i + 1)), .null] [] (I1, J, rf0) (RI (fun y9 m => ∃ I', m = (I', J, rf0) ∧ FrC I I' ∧ y9 = (S_fewest P tl).1 ∧ AbsC rw tx P ds sh (S_fewest P tl).2 ch fn I' J))) (fun i hi kk hn => ?_) (fun hn => ?_) (fun q hq => absurd hq (Nat.not_lt_zero q))
    · skip
      refine g_iload_n dX10_fewest_22 rfl ?_
      refine g_iconst (v := 3) dX10_fewest_23 (by decide) ?_
      refine g_icmp_gt (tgt := 55) dX10_fewest_24 (by decide) (fun c24 => ?_) (fun c24 => ?_)
      · exact absurd c24 (Int32.not_lt.mpr (nI_le (show i + 1 ≤ 3 by omega) (by decide)))
      · skip
        refine g_aload_n dX10_fewest_27 rfl ?_
        refine t_getR dX10_fewest_28 fl_X10_67 rfl (by decide) rfl (by decide) rfl ?_
        refine g_iload_n dX10_fewest_31 rfl ?_
        refine g_callVi dX10_fewest_32 ln_X10_287 ⟨_, rfl⟩ rfl (by decide) ⟨_, _, rfl⟩ rfl (Nat.le_of_ble_eq_true rfl) (Nat.le_of_ble_eq_true rfl) (ct_leastTelling (k := i + 1) hQ hH (hP.t hf1) (by omega) (by omega)) rfl (fun r32 m32 h32 => ?_)
        obtain ⟨rfl, rfl⟩ := h32
        refine g_istore_n dX10_fewest_35 (by decide) ?_
        show Go _ _ _ _ _ _ [_, _, _] _ _ _
        refine g_iload_n dX10_fewest_36 rfl ?_
        refine g_bipush (v := -9) dX10_fewest_37 (by decide) ?_
        refine g_icmp_eq (tgt := 49) dX10_fewest_39 (by decide) (fun c39 => ?_) (fun c39 => ?_)
        · skip
          refine g_iinc dX10_fewest_49 rfl (by decide) ?_
          show Go _ _ _ _ _ _ [_, _, _] _ _ _
          refine g_goto (tgt := 22) dX10_fewest_52 (by decide) ?_
          refine g_forget 2 ?_
          show Go _ _ _ _ _ _ [_, _, _] _ _ _
          rw [nI_inc]
          exact kk (fun j hj => by
            rcases Nat.lt_or_ge j i with q1 | q1
            · exact hn j q1
            · rw [show j = i by omega]; exact ls_9 h14 c39)
        · skip
          refine g_aload_n dX10_fewest_42 rfl ?_
          refine g_iload_n dX10_fewest_43 rfl ?_
          refine t_putI dX10_fewest_44 fl_X10_111 rfl (by decide) rfl (by decide) ?_
          refine g_iload_n dX10_fewest_47 rfl ?_
          refine g_iret dX10_fewest_48 (fun ty h => by cases h; rfl) ?_
          cases hh : lsR P 0 P.2.1 (i + 1) with
          | none => rw [hh] at c39; exact absurd rfl c39
          | some v =>
            have hS := few_at (tl := tl) (of_decide_eq_false (bI_eq c7)) hi hn hh
            exact ⟨_, rfl, (FrC.t hf1).up (by decide), by rw [hS], by rw [hS]; exact hA1.told⟩
    · skip
      refine g_iload_n dX10_fewest_22 rfl ?_
      refine g_iconst (v := 3) dX10_fewest_23 (by decide) ?_
      refine g_icmp_gt (tgt := 55) dX10_fewest_24 (by decide) (fun c24 => ?_) (fun c24 => ?_)
      · skip
        refine g_bipush (v := -9) dX10_fewest_55 (by decide) ?_
        refine g_iret dX10_fewest_57 (fun ty h => by cases h; rfl) ?_
        have hS := few_no (tl := tl) (of_decide_eq_false (bI_eq c7)) hn
        exact ⟨_, rfl, FrC.t hf1, by rw [hS], by rw [hS]; exact hA1⟩
      · exact absurd (by decide) c24
  · skip
    refine g_bipush (v := -4) dX10_fewest_10 (by decide) ?_
    refine g_iret dX10_fewest_12 (fun ty h => by cases h; rfl) ?_
    have hS : S_fewest P tl = (-4, tl) := by unfold S_fewest; rw [if_pos (of_decide_eq_true (bI_ne c7))]
    exact ⟨_, rfl, FrC.rf, by rw [hS], by rw [hS]; exact hA⟩
theorem pc_modern {rw tx : Tab} {P : Pce} {ds : List Deed} {sh : Shf} {tl : Int32} {ch : Int64 × Int64} {fn : Fnd} (hA : AbsC rw tx P ds sh tl ch fn I J) (hO : StOK rw tx P ds sh) : Ct X (d + 4) 66 M_X10_modern 66 [.ref 0] (I, J, rf0) (RI (fun y9 m => ∃ I', m = (I', J, rf0) ∧ FrC I I' ∧ y9 = (S_modern P).1 ∧ AbsC rw tx P ds sh (S_modern P).2 ch fn I' J)) := by
  have hP := hA.2.2.1
  have hQ := hO.2.2.1
  have h14 := hQ.2.1
  have h4 := hQ.1
  show Go _ _ _ _ _ _ [_, _, _, _] _ _ _
  refine g_iconst (v := 0) dX10_modern_0 (by decide) ?_
  refine g_istore_n dX10_modern_1 (by decide) ?_
  show Go _ _ _ _ _ _ [_, _, _, _] _ _ _
  refine g_iconst (v := 0) dX10_modern_2 (by decide) ?_
  refine g_istore_n dX10_modern_3 (by decide) ?_
  show Go _ _ _ _ _ _ [_, _, _, _] _ _ _
  refine g_iconst (v := 0) dX10_modern_4 (by decide) ?_
  refine g_istore_n dX10_modern_5 (by decide) ?_
  show Go _ _ _ _ _ _ [_, _, _, _] _ _ _
  refine go_mem (fun x I2 => Fr [41] I I2) P.2.1 (fun x I2 => Go X (d + 4) 66 M_X10_modern 66 6 [.ref 0, .int (nI (mdF P x).1), .int (nI (mdF P x).2), .int (nI x)] [] (I2, J, rf0) (RI (fun y9 m => ∃ I', m = (I', J, rf0) ∧ FrC I I' ∧ y9 = (S_modern P).1 ∧ AbsC rw tx P ds sh (S_modern P).2 ch fn I' J))) (fun x I2 hx h9 kk => ?_) (fun I2 h9 => ?_) _ Fr.rf
  · skip
    refine g_iload_n dX10_modern_6 rfl ?_
    refine g_aload_n dX10_modern_7 rfl ?_
    refine t_getR dX10_modern_8 fl_X10_35 rfl (by decide) rfl (by decide) rfl ?_
    refine t_getI dX10_modern_11 fl_X10_165 rfl (by decide) rfl (by decide) ?_
    rw [h9 22 (by decide), hP.2.1]
    refine g_icmp_ge (tgt := 59) dX10_modern_14 (by decide) (fun c14 => ?_) (fun c14 => ?_)
    · exact absurd (nI_lt hx (by omega)) (Int32.not_lt.mpr c14)
    · skip
      refine g_aload_n dX10_modern_17 rfl ?_
      refine t_getR dX10_modern_18 fl_X10_35 rfl (by decide) rfl (by decide) rfl ?_
      refine g_iload_n dX10_modern_21 rfl ?_
      refine g_callVi dX10_modern_22 ln_X10_290 ⟨_, rfl⟩ rfl (by decide) ⟨_, _, rfl⟩ rfl (Nat.le_of_ble_eq_true rfl) (Nat.le_of_ble_eq_true rfl) (ct_heardPlainly (hP.t h9.t) hQ hx) rfl (fun r22 m22 h22 => ?_)
      obtain ⟨rfl, rfl⟩ := h22
      refine g_if_ne (tgt := 31) dX10_modern_25 (by decide) (fun c25 => ?_) (fun c25 => ?_)
      · skip
        refine g_iload_n dX10_modern_31 rfl ?_
        refine g_iconst (v := 1) dX10_modern_32 (by decide) ?_
        refine g_iload_n dX10_modern_33 rfl ?_
        refine g_ishl dX10_modern_34 ?_
        refine g_ior dX10_modern_35 ?_
        rw [orbit (by omega)]
        refine g_istore_n dX10_modern_36 (by decide) ?_
        show Go _ _ _ _ _ _ [_, _, _, _] _ _ _
        refine g_aload_n dX10_modern_37 rfl ?_
        refine t_getR dX10_modern_38 fl_X10_67 rfl (by decide) rfl (by decide) rfl ?_
        refine g_iload_n dX10_modern_41 rfl ?_
        refine g_iconst (v := 0) dX10_modern_42 (by decide) ?_
        refine g_iconst (v := -1) dX10_modern_43 (by decide) ?_
        rw [z_m1]
        refine g_callVi dX10_modern_44 ln_X10_293 ⟨_, rfl⟩ rfl (by decide) ⟨_, _, rfl⟩ rfl (Nat.le_of_ble_eq_true rfl) (Nat.le_of_ble_eq_true rfl) (ct_heardWith (x := x) (p := 0) (z := -1) (hP.t h9.t) hQ hx (by decide) (by decide)) rfl (fun r44 m44 h44 => ?_)
        obtain ⟨I3, rfl, hf3, rfl⟩ := h44
        refine g_if_ne (tgt := 53) dX10_modern_47 (by decide) (fun c47 => ?_) (fun c47 => ?_)
        · skip
          refine g_iinc dX10_modern_53 rfl (by decide) ?_
          show Go _ _ _ _ _ _ [_, _, _, _] _ _ _
          refine g_goto (tgt := 6) dX10_modern_56 (by decide) ?_
          rw [nI_inc]
          rw [mdF_s] at kk
          have b1 := hrS_lt hQ (upR (fun _ => 0 : Nat → Int) 0 (-1)) x
          have b2 := hrS_lt hQ (fun _ => 0 : Nat → Int) x
          first
            | (rw [if_pos ((nI_eq (by omega) (by decide)).mp (show nI (hrS P (fun _ => 0 : Nat → Int) x) = nI 0 from c25))] at kk
               exact kk _ h9)
            | (rw [if_neg (show ¬ hrS P (fun _ => 0 : Nat → Int) x = 0 from fun q => c25 (by rw [q]; rfl))] at kk
               first
                 | (rw [if_pos ((nI_eq (by omega) (by decide)).mp (show nI (hrS P (upR (fun _ => 0 : Nat → Int) 0 (-1)) x) = nI 0 from c47))] at kk
                    rw [nI_inc]
                    exact kk _ (h9.trans hf3))
                 | (rw [if_neg (show ¬ hrS P (upR (fun _ => 0 : Nat → Int) 0 (-1)) x = 0 from fun q => c47 (by rw [q]; rfl))] at kk
                    exact kk _ (h9.trans hf3)))
            | fail "no way"
        · skip
          refine g_iinc dX10_modern_50 rfl (by decide) ?_
          show Go _ _ _ _ _ _ [_, _, _, _] _ _ _
          refine g_iinc dX10_modern_53 rfl (by decide) ?_
          show Go _ _ _ _ _ _ [_, _, _, _] _ _ _
          refine g_goto (tgt := 6) dX10_modern_56 (by decide) ?_
          rw [nI_inc]
          rw [mdF_s] at kk
          have b1 := hrS_lt hQ (upR (fun _ => 0 : Nat → Int) 0 (-1)) x
          have b2 := hrS_lt hQ (fun _ => 0 : Nat → Int) x
          first
            | (rw [if_pos ((nI_eq (by omega) (by decide)).mp (show nI (hrS P (fun _ => 0 : Nat → Int) x) = nI 0 from c25))] at kk
               exact kk _ h9)
            | (rw [if_neg (show ¬ hrS P (fun _ => 0 : Nat → Int) x = 0 from fun q => c25 (by rw [q]; rfl))] at kk
               first
                 | (rw [if_pos ((nI_eq (by omega) (by decide)).mp (show nI (hrS P (upR (fun _ => 0 : Nat → Int) 0 (-1)) x) = nI 0 from c47))] at kk
                    rw [nI_inc]
                    exact kk _ (h9.trans hf3))
                 | (rw [if_neg (show ¬ hrS P (upR (fun _ => 0 : Nat → Int) 0 (-1)) x = 0 from fun q => c47 (by rw [q]; rfl))] at kk
                    exact kk _ (h9.trans hf3)))
            | fail "no way"
      · skip
        refine g_goto (tgt := 53) dX10_modern_28 (by decide) ?_
        refine g_iinc dX10_modern_53 rfl (by decide) ?_
        show Go _ _ _ _ _ _ [_, _, _, _] _ _ _
        refine g_goto (tgt := 6) dX10_modern_56 (by decide) ?_
        rw [nI_inc]
        rw [mdF_s] at kk
        have b1 := hrS_lt hQ (upR (fun _ => 0 : Nat → Int) 0 (-1)) x
        have b2 := hrS_lt hQ (fun _ => 0 : Nat → Int) x
        first
          | (rw [if_pos ((nI_eq (by omega) (by decide)).mp (show nI (hrS P (fun _ => 0 : Nat → Int) x) = nI 0 from c25))] at kk
             exact kk _ h9)
          | (rw [if_neg (show ¬ hrS P (fun _ => 0 : Nat → Int) x = 0 from fun q => c25 (by rw [q]; rfl))] at kk
             first
               | (rw [if_pos ((nI_eq (by omega) (by decide)).mp (show nI (hrS P (upR (fun _ => 0 : Nat → Int) 0 (-1)) x) = nI 0 from c47))] at kk
                  rw [nI_inc]
                  exact kk _ (h9.trans hf3))
               | (rw [if_neg (show ¬ hrS P (upR (fun _ => 0 : Nat → Int) 0 (-1)) x = 0 from fun q => c47 (by rw [q]; rfl))] at kk
                  exact kk _ (h9.trans hf3)))
          | fail "no way"
  · skip
    refine g_iload_n dX10_modern_6 rfl ?_
    refine g_aload_n dX10_modern_7 rfl ?_
    refine t_getR dX10_modern_8 fl_X10_35 rfl (by decide) rfl (by decide) rfl ?_
    refine t_getI dX10_modern_11 fl_X10_165 rfl (by decide) rfl (by decide) ?_
    rw [h9 22 (by decide), hP.2.1]
    refine g_icmp_ge (tgt := 59) dX10_modern_14 (by decide) (fun c14 => ?_) (fun c14 => ?_)
    · skip
      refine g_aload_n dX10_modern_59 rfl ?_
      refine g_iload_n dX10_modern_60 rfl ?_
      refine t_putI dX10_modern_61 fl_X10_111 rfl (by decide) rfl (by decide) ?_
      refine g_iload_n dX10_modern_64 rfl ?_
      refine g_iret dX10_modern_65 (fun ty h => by cases h; rfl) ?_
      exact ⟨_, rfl, (FrC.t h9.t).up (by decide), rfl, (hA.t h9.t).told⟩
    · exact absurd (Int32.le_refl _) c14
end
