section
variable {X : Nat × (Nat → Int32)} {d : Nat} {I : Nat → Nat → Int32} {J : Nat → Nat → Int64}
/-! ===== what always holds goes on holding ===== -/
theorem StOK.rw' {rw rw' tx : Tab} {P : Pce} {ds : List Deed} {sh : Shf} (h : StOK rw tx P ds sh) (h1 : TabOK 6 40 rw') : StOK rw' tx P ds sh := ⟨h1, h.2.1, h.2.2.1, h.2.2.2.1, h.2.2.2.2⟩
theorem StOK.tx' {rw tx tx' : Tab} {P : Pce} {ds : List Deed} {sh : Shf} (h : StOK rw tx P ds sh) (h1 : TabOK 4 80 tx') : StOK rw tx' P ds sh := ⟨h.1, h1, h.2.2.1, h.2.2.2.1, h.2.2.2.2⟩
theorem TabOK.row {k mx : Nat} {v : Int32} {t : Tab} {fn : Fnd} {r n : Int32} (h : TabOK k mx t) (hmx : mx < 2 ^ 31) : TabOK k mx (S_row mx v k t fn r n).2.1 := by
  unfold S_row
  split
  · exact h
  · rename_i q
    split
    · exact h
    · rename_i q2
      intro a ha c hc
      have hc' : upR t.1 r.toNatClampNeg (some n.toNatClampNeg) a = some c := hc
      by_cases e : a = r.toNatClampNeg
      · rw [e, upR_s] at hc'
        cases hc'
        have h1 : ¬ nI mx < n := fun z => q (Or.inr z)
        have h2 := Int32.le_iff_toInt_le.mp (Int32.not_lt.mp h1)
        rw [nI_toInt hmx] at h2
        have h3 : n.toNatClampNeg = n.toInt.toNat := rfl
        rw [h3]
        omega
      · rw [upR_n e] at hc'
        exact h a ha c hc'
theorem sk_row {rw tx : Tab} {P : Pce} {ds : List Deed} {sh : Shf} {fn : Fnd} {tl : Int32} {r n : Int32} (h : StOK rw tx P ds sh) : StOK (S_row 40 0 6 rw fn r n).2.1 tx P ds sh := h.rw' (h.1.row (by decide))
theorem sk_text {rw tx : Tab} {P : Pce} {ds : List Deed} {sh : Shf} {fn : Fnd} {tl : Int32} {r n : Int32} (h : StOK rw tx P ds sh) : StOK rw (S_row 80 32 4 tx fn r n).2.1 P ds sh := h.tx' (h.2.1.row (by decide))
theorem sk_lay {rw tx : Tab} {P : Pce} {ds : List Deed} {sh : Shf} {fn : Fnd} {tl : Int32} {r i v : Int32} (h : StOK rw tx P ds sh) : StOK (S_lay rw fn tl r i v).2.1 tx P ds sh := h.rw' (by
  unfold S_lay
  split
  · exact h.1
  · exact h.1
  · split
    · exact h.1
    · exact h.1)
theorem sk_tear {rw tx : Tab} {P : Pce} {ds : List Deed} {sh : Shf} {fn : Fnd} {tl : Int32} {r : Int32} (h : StOK rw tx P ds sh) : StOK (S_tear rw fn r).2.1 tx P ds sh := h.rw' (by
  unfold S_tear
  split
  · exact h.1
  · exact h.1
  · rename_i j c e9
    intro a ha c2 hc
    have hc' : upR rw.1 j none a = some c2 := hc
    by_cases e : a = j
    · rw [e, upR_s] at hc'; cases hc'
    · rw [upR_n e] at hc'; exact h.1 a ha c2 hc')
theorem sk_copy {rw tx : Tab} {P : Pce} {ds : List Deed} {sh : Shf} {fn : Fnd} {tl : Int32} {r i to j n : Int32} (h : StOK rw tx P ds sh) : StOK (S_copy rw fn r i to j n).2.1 tx P ds sh := h.rw' (by
  unfold S_copy
  split
  · split
    · exact h.1
    · split
      · split
        · exact h.1
        · exact h.1
      · exact h.1
  · exact h.1)
theorem sk_put {rw tx : Tab} {P : Pce} {ds : List Deed} {sh : Shf} {fn : Fnd} {tl : Int32} {r i v : Int32} (h : StOK rw tx P ds sh) : StOK rw (S_put tx fn r i v).2.1 P ds sh := h.tx' (by
  unfold S_put
  split
  · exact h.2.1
  · exact h.2.1
  · split
    · exact h.2.1
    · exact h.2.1)
theorem sk_piece {rw tx : Tab} {P : Pce} {ds : List Deed} {sh : Shf} {fn : Fnd} {tl : Int32} {t : Int32} (h : StOK rw tx P ds sh) : StOK rw tx (S_piece tx P ds sh fn t).2.1 (S_piece tx P ds sh fn t).2.2.1 (S_piece tx P ds sh fn t).2.2.2.1 := by
  unfold S_piece
  split
  · exact h
  · exact h
  · split
    · exact h
    · rename_i P' e9
      exact ⟨h.1, h.2.1, rdAll_ok e9, ⟨Nat.zero_le _, trivial⟩, fun k _ es he => by cases he⟩
theorem sk_play {rw tx : Tab} {P : Pce} {ds : List Deed} {sh : Shf} {fn : Fnd} {tl : Int32} (h : StOK rw tx P ds sh) : StOK rw tx P (S_play P ds).2 sh := by
  unfold S_play
  split
  · exact h
  · rename_i q1
    split
    · exact h
    · rename_i q2
      exact h.ds (h.2.2.2.1.app (Nat.lt_of_not_le q2) ⟨Nat.lt_of_not_le q1, rfl, rfl⟩)
theorem sk_slip {rw tx : Tab} {P : Pce} {ds : List Deed} {sh : Shf} {fn : Fnd} {tl : Int32} {p e : Int32} (h : StOK rw tx P ds sh) : StOK rw tx P (S_slip P ds p e).2 sh := by
  have h4 := h.2.2.1.1
  unfold S_slip
  split
  · rename_i q0
    rw [Bool.and_eq_true] at q0
    split
    · rename_i q1
      split
      · exact h
      · rename_i q2
        obtain ⟨i, hi, rfl⟩ := inR_ix (by omega) q0.1
        have he : e.toInt = -1 ∨ e.toInt = 1 := by
          rcases Bool.or_eq_true _ _ ▸ q0.2 with z | z
          · exact Or.inl (by rw [of_decide_eq_true z]; decide)
          · exact Or.inr (by rw [of_decide_eq_true z]; decide)
        rw [cl_nI (by omega)] at q1 ⊢
        exact h.ds (h.2.2.2.1.app (Nat.lt_of_not_le q2) ⟨hi, by show (e.toInt + 1).toNat = 0 ∨ (e.toInt + 1).toNat = 2; omega, by show -2 ≤ (evO P ds).2.2.1 i + ((e.toInt + 1).toNat : Int) - 1; omega, by show (evO P ds).2.2.1 i + ((e.toInt + 1).toNat : Int) - 1 ≤ 2; omega⟩)
    · exact h
  · exact h
theorem sk_jump {rw tx : Tab} {P : Pce} {ds : List Deed} {sh : Shf} {fn : Fnd} {tl : Int32} {p q : Int32} (h : StOK rw tx P ds sh) : StOK rw tx P (S_jump P ds p q).2 sh := by
  have h4 := h.2.2.1.1
  unfold S_jump
  split
  · rename_i q0
    rw [Bool.and_eq_true, Bool.and_eq_true] at q0
    split
    · exact h
    · rename_i q2
      obtain ⟨i, hi, rfl⟩ := inR_ix (by omega) q0.1
      obtain ⟨j, hj, rfl⟩ := inR_ix (by omega) q0.2.1
      rw [cl_nI (by omega), cl_nI (by omega)]
      exact h.ds (h.2.2.2.1.app (Nat.lt_of_not_le q2) ⟨hi, hj⟩)
  · exact h
theorem sk_anew {rw tx : Tab} {P : Pce} {ds : List Deed} {sh : Shf} {fn : Fnd} {tl : Int32} {l : Int32} (h : StOK rw tx P ds sh) : StOK rw tx P (S_anew P ds l).2 sh := by
  unfold S_anew
  split
  · exact h
  · rename_i x e9
    split
    · exact h
    · rename_i q2
      exact h.ds (h.2.2.2.1.app (Nat.lt_of_not_le q2) ⟨rfl, (fstN_spec e9).1⟩)
theorem sk_undo {rw tx : Tab} {P : Pce} {ds : List Deed} {sh : Shf} {fn : Fnd} {tl : Int32} {n : Int32} (h : StOK rw tx P ds sh) : StOK rw tx P (S_undo ds n).2 sh := by
  unfold S_undo
  split
  · exact h.ds ⟨by rw [List.length_take]; have := h.2.2.2.1.1; omega, evAll_take _ h.2.2.2.1.2⟩
  · exact h
theorem sk_heard {rw tx : Tab} {P : Pce} {ds : List Deed} {sh : Shf} {fn : Fnd} {tl : Int32} {r : Int32} (h : StOK rw tx P ds sh) : StOK (S_heard P ds rw r).2 tx P ds sh := h.rw' (by
  have hR : EvR (evO P ds) := EvR.e.run h.2.2.1 h.2.2.2.1.2
  have hr := hR.1
  unfold S_heard
  split
  · intro a ha c hc
    have hc' : upR rw.1 r.toNatClampNeg (some ((evO P ds).1 - (evO P ds).2.1)) a = some c := hc
    by_cases e : a = r.toNatClampNeg
    · rw [e, upR_s] at hc'; cases hc'; omega
    · rw [upR_n e] at hc'; exact h.1 a ha c hc'
  · exact h.1)
theorem sk_image {rw tx : Tab} {P : Pce} {ds : List Deed} {sh : Shf} {fn : Fnd} {tl : Int32} {k : Int32} (h : StOK rw tx P ds sh) : StOK rw tx P ds (S_image P ds sh k).2 := by
  unfold S_image
  split
  · split
    · exact h
    · refine ⟨h.1, h.2.1, h.2.2.1, h.2.2.2.1, fun a ha es he => ?_⟩
      have he' : upR sh k.toNatClampNeg (some ds) a = some es := he
      by_cases e : a = k.toNatClampNeg
      · rw [e, upR_s] at he'; cases he'; exact h.2.2.2.1
      · rw [upR_n e] at he'; exact h.2.2.2.2 a ha es he'
  · exact h
theorem sk_restore {rw tx : Tab} {P : Pce} {ds : List Deed} {sh : Shf} {fn : Fnd} {tl : Int32} {k : Int32} (h : StOK rw tx P ds sh) : StOK rw tx P (S_restore ds sh fn k).2.1 sh := by
  unfold S_restore
  split
  · rename_i q
    split
    · exact h
    · rename_i es e9
      obtain ⟨j, hj, rfl⟩ := inR_ix (by decide) q
      rw [cl_nI (by omega)] at e9
      exact h.ds (h.2.2.2.2 j hj es e9)
  · exact h
theorem sk_lo {rw tx : Tab} {P : Pce} {sh : Shf} : ∀ (k x : Nat) (ds : List Deed) (c : Nat), StOK rw tx P ds sh → StOK rw tx P (lo P k x ds c).2 sh
  | 0, x, ds, c, h => h
  | k + 1, x, ds, c, h => by
    rw [lo_s]
    split
    · exact h
    · rename_i q1
      have h2 : 2 ≤ P.1 := h.2.2.1.2.2.1.resolve_left (fun z => q1 (Or.inl (by omega)))
      have h3 := slD_ok (x := nxL x) h (Nat.lt_of_not_le (fun z => q1 (Or.inr z))) h2
      split
      · exact h3
      · rename_i q2
        exact sk_lo k _ _ _ (h3.ds (h3.2.2.2.1.app (Nat.lt_of_not_le q2) ⟨by rw [slD_at]; exact Nat.lt_of_not_le (fun z => q1 (Or.inl z)), rfl, rfl⟩))
theorem sk_lots {rw tx : Tab} {P : Pce} {ds : List Deed} {sh : Shf} {fn : Fnd} {tl : Int32} {n e : Int32} (h : StOK rw tx P ds sh) : StOK rw tx P (S_lots P ds n e).2 sh := by
  unfold S_lots
  split
  · split
    · exact h
    · exact sk_lo _ _ _ _ h
  · exact h
end
