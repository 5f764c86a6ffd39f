section
variable {X : Nat × (Nat → Int32)} {d : Nat} {I : Nat → Nat → Int32} {J : Nat → Nat → Int64}
/-! ===== the abstract state: piece, evening, shelf; the views of both sides ===== -/
abbrev Deed : Type := Nat × Nat × Nat
/-- players, places, the kind of a place, the note of a place and a player -/
abbrev Pce : Type := Nat × Nat × (Nat → Nat) × (Nat → Nat → Nat)
def zI (z : Int) : Int32 := Int32.ofInt z
/-- what sounds (below 0: nothing) -/
def sndS (P : Pce) (p : Nat) (z : Int) : Int := if p < P.1 ∧ 0 ≤ z ∧ z < P.2.1 then (if P.2.2.2 z.toNat p < 8 then (P.2.2.2 z.toNat p : Int) else -1) else -1
def clsB (k : Nat) (a b : Int) : Bool := decide (0 ≤ a) && (decide (0 ≤ b) && (match k with
  | 0 => decide (a - b = 1 ∨ b - a = 1 ∨ a - b = 6 ∨ b - a = 6)
  | 1 => decide (a ≠ b)
  | 3 => decide (a ≠ b)
  | 5 => decide (a - b = 1 ∨ b - a = 1)
  | _ => false))
/-- the pairs a, b with c a b: bits, how many pairs -/
def prIn (c : Nat → Bool) (a n : Nat) (s : Nat × Nat) : Nat × Nat := foldN (fun t s => (if c (a + 1 + t) then s.1 ||| 2 ^ s.2 else s.1, s.2 + 1)) s n
def prs (np : Nat) (c : Nat → Nat → Bool) : Nat × Nat := foldN (fun a s => prIn (c a) a (np - (a + 1)) s) (0, 0) np
def hrK (P : Pce) (k : Nat) (o : Nat → Int) (x : Nat) : Nat := (prs P.1 (fun a b => clsB k (sndS P a (x + o a)) (sndS P b (x + o b)))).1
def hrS (P : Pce) (o : Nat → Int) (x : Nat) : Nat := hrK P (P.2.2.1 x) o x
/-- the evening: where, from where, outs, heard -/
abbrev Evs : Type := Nat × Nat × (Nat → Int) × (Nat → Nat)
def ev0 (x : Nat) (h : Nat → Nat) : Evs := (x, x, fun _ => 0, h)
def evStep (P : Pce) (s : Evs) (d : Deed) : Evs := match d.1 with
  | 0 => (s.1 + 1, s.2.1, s.2.2.1, upR s.2.2.2 s.1 (hrS P s.2.2.1 s.1))
  | 1 => (s.1, s.2.1, upR s.2.2.1 d.2.1 (s.2.2.1 d.2.1 + d.2.2 - 1), s.2.2.2)
  | 2 => (s.1, s.2.1, upR s.2.2.1 d.2.1 (s.2.2.1 d.2.2), s.2.2.2)
  | _ => ev0 d.2.2 s.2.2.2
def evOK (P : Pce) (s : Evs) (d : Deed) : Prop := match d.1 with
  | 0 => s.1 < P.2.1 ∧ d.2.1 = 0 ∧ d.2.2 = 0
  | 1 => d.2.1 < P.1 ∧ (d.2.2 = 0 ∨ d.2.2 = 2) ∧ -2 ≤ s.2.2.1 d.2.1 + d.2.2 - 1 ∧ s.2.2.1 d.2.1 + d.2.2 - 1 ≤ 2
  | 2 => d.2.1 < P.1 ∧ d.2.2 < P.1
  | 3 => d.2.1 = 0 ∧ d.2.2 < P.2.1
  | _ => False
def evRun (P : Pce) (s : Evs) (ds : List Deed) : Evs := ds.foldl (evStep P) s
def evAll (P : Pce) : Evs → List Deed → Prop
  | _, [] => True
  | s, d :: ds => evOK P s d ∧ evAll P (evStep P s d) ds
def evE : Evs := ev0 0 (fun _ => 0)
abbrev evO (P : Pce) (ds : List Deed) : Evs := evRun P evE ds
def encD (d : Deed) : Nat := d.1 * 64 + d.2.1 * 16 + d.2.2
def howM (d : Deed) : Int32 := if d.1 = 1 then zI ((d.2.2 : Int) - 1) else nI d.2.2
abbrev Shf : Type := Nat → Option (List Deed)
/-- the piece in its cells: object o, slots jp and jx, rows kc and nc -/
def PcV (o jp jx kc nc : Nat) (P : Pce) (I : Nat → Nat → Int32) : Prop := I o jp = nI P.1 ∧ I o jx = nI P.2.1 ∧ (∀ x, x < P.2.1 → I kc x = nI (P.2.2.1 x)) ∧ ∀ x, x < P.2.1 → ∀ p, p < P.1 → I nc (4 * x + p) = nI (P.2.2.2 x p)
abbrev PcC : Pce → (Nat → Nat → Int32) → Prop := PcV 22 2 3 23 24
abbrev PcM : Pce → (Nat → Nat → Int32) → Prop := PcV 48 5 6 54 55
def OuV (c : Nat) (o : Nat → Int) (I : Nat → Nat → Int32) : Prop := ∀ p, p < 4 → I c p = zI (o p)
def DsC (c : Nat) (ds : List Deed) (I : Nat → Nat → Int32) : Prop := ∀ i d, ds[i]? = some d → I c i = nI (encD d)
def DsM (b : Nat) (ds : List Deed) (I : Nat → Nat → Int32) : Prop := ∀ i d, ds[i]? = some d → I 59 (b + 3 * i) = nI d.1 ∧ I 59 (b + 3 * i + 1) = nI d.2.1 ∧ I 59 (b + 3 * i + 2) = howM d
def EsC (s : Evs) (I : Nat → Nat → Int32) : Prop := I 25 5 = nI s.1 ∧ I 25 6 = nI s.2.1 ∧ OuV 28 s.2.2.1 I ∧ ∀ x, s.2.1 ≤ x → x < s.1 → I 26 x = nI (s.2.2.2 x)
def EsM (s : Evs) (I : Nat → Nat → Int32) : Prop := I 48 15 = nI s.1 ∧ I 48 16 = nI s.2.1 ∧ I 48 17 = nI (s.1 - s.2.1) ∧ OuV 60 s.2.2.1 I ∧ ∀ i, i < s.1 - s.2.1 → I 61 i = nI (s.2.2.2 (s.2.1 + i))
def EvC (P : Pce) (ds : List Deed) (I : Nat → Nat → Int32) : Prop := I 25 4 = nI ds.length ∧ DsC 27 ds I ∧ EsC (evO P ds) I
def EvM (P : Pce) (ds : List Deed) (I : Nat → Nat → Int32) : Prop := I 58 0 = nI ds.length ∧ DsM 0 ds I ∧ EsM (evO P ds) I
def ShC (sh : Shf) (I : Nat → Nat → Int32) : Prop := ∀ k, k < 3 → I 31 k = szI ((sh k).map List.length) ∧ ∀ ds, sh k = some ds → DsC (33 + k) ds I
def ShM (sh : Shf) (I : Nat → Nat → Int32) : Prop := ∀ k, k < 3 → I 58 (k + 1) = szI ((sh k).map List.length) ∧ ∀ ds, sh k = some ds → DsM (120 * (k + 1)) ds I
/-- what holds of the abstract state always -/
def PcOK (P : Pce) : Prop := P.1 ≤ 4 ∧ P.2.1 ≤ 14 ∧ (P.2.1 = 0 ∨ 2 ≤ P.1) ∧ (∀ x, P.2.2.1 x < 6) ∧ ∀ x p, P.2.2.2 x p < 10
def DsOK (P : Pce) (ds : List Deed) : Prop := ds.length ≤ 40 ∧ evAll P evE ds
def StOK (rw tx : Tab) (P : Pce) (ds : List Deed) (sh : Shf) : Prop := TabOK 6 40 rw ∧ TabOK 4 80 tx ∧ PcOK P ∧ DsOK P ds ∧ ∀ k, k < 3 → ∀ es, sh k = some es → DsOK P es
def AbsC (rw tx : Tab) (P : Pce) (ds : List Deed) (sh : Shf) (tl : Int32) (ch : Int64 × Int64) (fn : Fnd) (I : Nat → Nat → Int32) (J : Nat → Nat → Int64) : Prop := RwC rw I ∧ TxC tx I ∧ PcC P I ∧ EvC P ds I ∧ ShC sh I ∧ I 0 10 = tl ∧ (J 0 12 = ch.1 ∧ J 0 13 = ch.2) ∧ FnC fn I
def AbsM (rw tx : Tab) (P : Pce) (ds : List Deed) (sh : Shf) (tl : Int32) (ch : Int64 × Int64) (fn : Fnd) (I : Nat → Nat → Int32) (J : Nat → Nat → Int64) : Prop := RwM rw I ∧ TxM tx I ∧ PcM P I ∧ EvM P ds I ∧ ShM sh I ∧ I 48 20 = tl ∧ (J 48 21 = ch.1 ∧ J 48 22 = ch.2) ∧ FnM fn I
def FrC (I I' : Nat → Nat → Int32) : Prop := ∀ k, 48 ≤ k → I' k = I k
def FrM (I I' : Nat → Nat → Int32) : Prop := ∀ k, k < 48 → I' k = I k
theorem FrC.rf : FrC I I := fun _ _ => rfl
theorem FrM.rf : FrM I I := fun _ _ => rfl
theorem FrC.up {I' : Nat → Nat → Int32} {k : Nat} {g : Nat → Int32} (h : FrC I I') (hk : k < 48) : FrC I (upR I' k g) := fun a ha => (upR_n (k := k) (a := a) (by omega)).trans (h a ha)
theorem FrM.up {I' : Nat → Nat → Int32} {k : Nat} {g : Nat → Int32} (h : FrM I I') (hk : 48 ≤ k) : FrM I (upR I' k g) := fun a ha => (upR_n (k := k) (a := a) (by omega)).trans (h a ha)
theorem FrC.tr {I' I'' : Nat → Nat → Int32} (h : FrC I I') (h2 : FrC I' I'') : FrC I I'' := fun k hk => (h2 k hk).trans (h k hk)
theorem FrM.tr {I' I'' : Nat → Nat → Int32} (h : FrM I I') (h2 : FrM I' I'') : FrM I I'' := fun k hk => (h2 k hk).trans (h k hk)
theorem FrC.of {l : List Nat} {I' : Nat → Nat → Int32} (h : Fr l I I') (hl : ∀ k ∈ l, k < 48) : FrC I I' := fun k hk => h k (fun q => by have := hl k q; omega)
theorem PcV.keep {o jp jx kc nc : Nat} {P : Pce} {I' : Nat → Nat → Int32} (h : PcV o jp jx kc nc P I) (h1 : I' o jp = I o jp) (h2 : I' o jx = I o jx) (h3 : I' kc = I kc) (h4 : I' nc = I nc) : PcV o jp jx kc nc P I' := ⟨h1.trans h.1, h2.trans h.2.1, fun x hx => by rw [h3]; exact h.2.2.1 x hx, fun x hx p hp => by rw [h4]; exact h.2.2.2 x hx p hp⟩
theorem OuV.keep {c : Nat} {o : Nat → Int} {I' : Nat → Nat → Int32} (h : OuV c o I) (h1 : I' c = I c) : OuV c o I' := fun p hp => by rw [h1]; exact h p hp
theorem DsC.keep {c : Nat} {ds : List Deed} {I' : Nat → Nat → Int32} (h : DsC c ds I) (h1 : I' c = I c) : DsC c ds I' := fun i d hd => by rw [h1]; exact h i d hd
theorem DsM.keep {b : Nat} {ds : List Deed} {I' : Nat → Nat → Int32} (h : DsM b ds I) (h1 : I' 59 = I 59) : DsM b ds I' := fun i d hd => by rw [h1]; exact h i d hd
theorem EvC.keep {P : Pce} {ds : List Deed} {I' : Nat → Nat → Int32} (h : EvC P ds I) (h1 : I' 25 = I 25) (h2 : I' 26 = I 26) (h3 : I' 27 = I 27) (h4 : I' 28 = I 28) : EvC P ds I' := ⟨by rw [h1]; exact h.1, h.2.1.keep h3, by rw [h1]; exact h.2.2.1, by rw [h1]; exact h.2.2.2.1, h.2.2.2.2.1.keep h4, fun x a b => by rw [h2]; exact h.2.2.2.2.2 x a b⟩
theorem EvM.keep {P : Pce} {ds : List Deed} {I' : Nat → Nat → Int32} (h : EvM P ds I) (h1 : ∀ j, 15 ≤ j → j ≤ 17 → I' 48 j = I 48 j) (h2 : I' 58 = I 58) (h3 : I' 59 = I 59) (h4 : I' 60 = I 60) (h5 : I' 61 = I 61) : EvM P ds I' := ⟨by rw [h2]; exact h.1, h.2.1.keep h3, by rw [h1 15 (by omega) (by omega)]; exact h.2.2.1, by rw [h1 16 (by omega) (by omega)]; exact h.2.2.2.1, by rw [h1 17 (by omega) (by omega)]; exact h.2.2.2.2.1, h.2.2.2.2.2.1.keep h4, fun i a => by rw [h5]; exact h.2.2.2.2.2.2 i a⟩
theorem ShC.keep {sh : Shf} {I' : Nat → Nat → Int32} (h : ShC sh I) (h1 : I' 31 = I 31) (h2 : ∀ k, k < 3 → I' (33 + k) = I (33 + k)) : ShC sh I' := fun k hk => ⟨by rw [h1]; exact (h k hk).1, fun ds hd => ((h k hk).2 ds hd).keep (h2 k hk)⟩
theorem ShM.keep {sh : Shf} {I' : Nat → Nat → Int32} (h : ShM sh I) (h1 : I' 58 = I 58) (h2 : I' 59 = I 59) : ShM sh I' := fun k hk => ⟨by rw [h1]; exact (h k hk).1, fun ds hd => ((h k hk).2 ds hd).keep h2⟩
section
variable {rw tx : Tab} {P : Pce} {ds : List Deed} {sh : Shf} {tl : Int32} {ch : Int64 × Int64} {fn : Fnd} {I' : Nat → Nat → Int32}
theorem AbsC.upRw {rw' : Tab} (h : AbsC rw tx P ds sh tl ch fn I J) (hf : Fr [3, 5, 6, 7, 8, 9, 10] I I') (h1 : RwC rw' I') : AbsC rw' tx P ds sh tl ch fn I' J :=
  ⟨h1, h.2.1.keep (hf 13 (by decide)) (fun r hr => hf (15 + r) (by simp; omega)), h.2.2.1.keep (by rw [hf 22 (by decide)]) (by rw [hf 22 (by decide)]) (hf 23 (by decide)) (hf 24 (by decide)), h.2.2.2.1.keep (hf 25 (by decide)) (hf 26 (by decide)) (hf 27 (by decide)) (hf 28 (by decide)), h.2.2.2.2.1.keep (hf 31 (by decide)) (fun r hr => hf (33 + r) (by simp; omega)), by rw [hf 0 (by decide)]; exact h.2.2.2.2.2.1, h.2.2.2.2.2.2.1, by rw [hf 0 (by decide)]; exact h.2.2.2.2.2.2.2.1, fun j hj => by rw [hf 47 (by decide)]; exact h.2.2.2.2.2.2.2.2 j hj⟩
theorem AbsC.upTx {tx' : Tab} (h : AbsC rw tx P ds sh tl ch fn I J) (hf : Fr [13, 15, 16, 17, 18] I I') (h1 : TxC tx' I') : AbsC rw tx' P ds sh tl ch fn I' J :=
  ⟨h.1.keep (hf 3 (by decide)) (fun r hr => hf (5 + r) (by simp; omega)), h1, h.2.2.1.keep (by rw [hf 22 (by decide)]) (by rw [hf 22 (by decide)]) (hf 23 (by decide)) (hf 24 (by decide)), h.2.2.2.1.keep (hf 25 (by decide)) (hf 26 (by decide)) (hf 27 (by decide)) (hf 28 (by decide)), h.2.2.2.2.1.keep (hf 31 (by decide)) (fun r hr => hf (33 + r) (by simp; omega)), by rw [hf 0 (by decide)]; exact h.2.2.2.2.2.1, h.2.2.2.2.2.2.1, by rw [hf 0 (by decide)]; exact h.2.2.2.2.2.2.2.1, fun j hj => by rw [hf 47 (by decide)]; exact h.2.2.2.2.2.2.2.2 j hj⟩
/-- what only changes cell 0's own numbers and the findings -/
theorem AbsC.up0 {tl' : Int32} {fn' : Fnd} (h : AbsC rw tx P ds sh tl ch fn I J) (hf : Fr [0, 47] I I') (h1 : I' 0 10 = tl') (h2 : FnC fn' I') : AbsC rw tx P ds sh tl' ch fn' I' J :=
  ⟨h.1.keep (hf 3 (by decide)) (fun r hr => hf (5 + r) (by simp; omega)), h.2.1.keep (hf 13 (by decide)) (fun r hr => hf (15 + r) (by simp; omega)), h.2.2.1.keep (by rw [hf 22 (by decide)]) (by rw [hf 22 (by decide)]) (hf 23 (by decide)) (hf 24 (by decide)), h.2.2.2.1.keep (hf 25 (by decide)) (hf 26 (by decide)) (hf 27 (by decide)) (hf 28 (by decide)), h.2.2.2.2.1.keep (hf 31 (by decide)) (fun r hr => hf (33 + r) (by simp; omega)), h1, h.2.2.2.2.2.2.1, h2⟩
theorem AbsC.told {v : Int32} (h : AbsC rw tx P ds sh tl ch fn I J) : AbsC rw tx P ds sh v ch fn (upR I 0 (upd (I 0) 10 v)) J := by
  refine h.up0 (Fr.rf.up (by decide)) (by rw [upR_s, pk_us]) ⟨?_, fun j hj => ?_⟩
  · rw [upR_s, pk_un (by decide)]; exact h.2.2.2.2.2.2.2.1
  · rw [upR_n (by decide)]; exact h.2.2.2.2.2.2.2.2 j hj
/-- scratch cells of the class -/
def scrC : List Nat := [19, 20, 21, 36, 37, 38, 39, 40, 41, 42, 43, 44, 45, 46]
theorem AbsC.scr (h : AbsC rw tx P ds sh tl ch fn I J) (hf : Fr scrC I I') : AbsC rw tx P ds sh tl ch fn I' J :=
  ⟨h.1.keep (hf 3 (by decide)) (fun r hr => hf (5 + r) (by simp [scrC]; omega)), h.2.1.keep (hf 13 (by decide)) (fun r hr => hf (15 + r) (by simp [scrC]; omega)), h.2.2.1.keep (by rw [hf 22 (by decide)]) (by rw [hf 22 (by decide)]) (hf 23 (by decide)) (hf 24 (by decide)), h.2.2.2.1.keep (hf 25 (by decide)) (hf 26 (by decide)) (hf 27 (by decide)) (hf 28 (by decide)), h.2.2.2.2.1.keep (hf 31 (by decide)) (fun r hr => hf (33 + r) (by simp [scrC]; omega)), by rw [hf 0 (by decide)]; exact h.2.2.2.2.2.1, h.2.2.2.2.2.2.1, by rw [hf 0 (by decide)]; exact h.2.2.2.2.2.2.2.1, fun j hj => by rw [hf 47 (by decide)]; exact h.2.2.2.2.2.2.2.2 j hj⟩
theorem AbsC.frM {J' : Nat → Nat → Int64} (h : AbsC rw tx P ds sh tl ch fn I J) (hf : FrM I I') (hj : J' 0 = J 0) : AbsC rw tx P ds sh tl ch fn I' J' :=
  ⟨h.1.keep (hf 3 (by decide)) (fun r hr => hf (5 + r) (by omega)), h.2.1.keep (hf 13 (by decide)) (fun r hr => hf (15 + r) (by omega)), h.2.2.1.keep (by rw [hf 22 (by decide)]) (by rw [hf 22 (by decide)]) (hf 23 (by decide)) (hf 24 (by decide)), h.2.2.2.1.keep (hf 25 (by decide)) (hf 26 (by decide)) (hf 27 (by decide)) (hf 28 (by decide)), h.2.2.2.2.1.keep (hf 31 (by decide)) (fun r hr => hf (33 + r) (by omega)), by rw [hf 0 (by decide)]; exact h.2.2.2.2.2.1, by rw [hj]; exact h.2.2.2.2.2.2.1, by rw [hf 0 (by decide)]; exact h.2.2.2.2.2.2.2.1, fun j hj => by rw [hf 47 (by decide)]; exact h.2.2.2.2.2.2.2.2 j hj⟩
theorem AbsM.frC {J' : Nat → Nat → Int64} (h : AbsM rw tx P ds sh tl ch fn I J) (hf : FrC I I') (hj : J' 48 = J 48) : AbsM rw tx P ds sh tl ch fn I' J' :=
  ⟨h.1.keep (hf 49 (by decide)) (fun _ _ => hf 50 (by decide)), h.2.1.keep (hf 51 (by decide)) (fun _ _ => hf 52 (by decide)), h.2.2.1.keep (by rw [hf 48 (by decide)]) (by rw [hf 48 (by decide)]) (hf 54 (by decide)) (hf 55 (by decide)), h.2.2.2.1.keep (fun _ _ _ => by rw [hf 48 (by decide)]) (hf 58 (by decide)) (hf 59 (by decide)) (hf 60 (by decide)) (hf 61 (by decide)), h.2.2.2.2.1.keep (hf 58 (by decide)) (hf 59 (by decide)), by rw [hf 48 (by decide)]; exact h.2.2.2.2.2.1, by rw [hj]; exact h.2.2.2.2.2.2.1, by rw [hf 48 (by decide)]; exact h.2.2.2.2.2.2.2.1, fun j hj => by rw [hf 62 (by decide)]; exact h.2.2.2.2.2.2.2.2 j hj⟩
theorem AbsM.upRw {rw' : Tab} (h : AbsM rw tx P ds sh tl ch fn I J) (hf : Fr [49, 50, 53] I I') (h1 : RwM rw' I') : AbsM rw' tx P ds sh tl ch fn I' J :=
  ⟨h1, h.2.1.keep (hf 51 (by decide)) (fun _ _ => hf 52 (by decide)), h.2.2.1.keep (by rw [hf 48 (by decide)]) (by rw [hf 48 (by decide)]) (hf 54 (by decide)) (hf 55 (by decide)), h.2.2.2.1.keep (fun _ _ _ => by rw [hf 48 (by decide)]) (hf 58 (by decide)) (hf 59 (by decide)) (hf 60 (by decide)) (hf 61 (by decide)), h.2.2.2.2.1.keep (hf 58 (by decide)) (hf 59 (by decide)), by rw [hf 48 (by decide)]; exact h.2.2.2.2.2.1, h.2.2.2.2.2.2.1, by rw [hf 48 (by decide)]; exact h.2.2.2.2.2.2.2.1, fun j hj => by rw [hf 62 (by decide)]; exact h.2.2.2.2.2.2.2.2 j hj⟩
theorem AbsM.upTx {tx' : Tab} (h : AbsM rw tx P ds sh tl ch fn I J) (hf : Fr [51, 52] I I') (h1 : TxM tx' I') : AbsM rw tx' P ds sh tl ch fn I' J :=
  ⟨h.1.keep (hf 49 (by decide)) (fun _ _ => hf 50 (by decide)), h1, h.2.2.1.keep (by rw [hf 48 (by decide)]) (by rw [hf 48 (by decide)]) (hf 54 (by decide)) (hf 55 (by decide)), h.2.2.2.1.keep (fun _ _ _ => by rw [hf 48 (by decide)]) (hf 58 (by decide)) (hf 59 (by decide)) (hf 60 (by decide)) (hf 61 (by decide)), h.2.2.2.2.1.keep (hf 58 (by decide)) (hf 59 (by decide)), by rw [hf 48 (by decide)]; exact h.2.2.2.2.2.1, h.2.2.2.2.2.2.1, by rw [hf 48 (by decide)]; exact h.2.2.2.2.2.2.2.1, fun j hj => by rw [hf 62 (by decide)]; exact h.2.2.2.2.2.2.2.2 j hj⟩
/-- what changes of cell 48 only slots that no view but asked, finding reads; the findings; scratch -/
theorem AbsM.up0 {tl' : Int32} {fn' : Fnd} (h : AbsM rw tx P ds sh tl ch fn I J) (hf : Fr [48, 56, 57, 62, 63, 64] I I') (h0 : ∀ j, j ≠ 11 → j ≠ 12 → j ≠ 20 → j ≠ 23 → I' 48 j = I 48 j) (h1 : I' 48 20 = tl') (h2 : FnM fn' I') : AbsM rw tx P ds sh tl' ch fn' I' J :=
  ⟨h.1.keep (hf 49 (by decide)) (fun _ _ => hf 50 (by decide)), h.2.1.keep (hf 51 (by decide)) (fun _ _ => hf 52 (by decide)), h.2.2.1.keep (h0 5 (by decide) (by decide) (by decide) (by decide)) (h0 6 (by decide) (by decide) (by decide) (by decide)) (hf 54 (by decide)) (hf 55 (by decide)), h.2.2.2.1.keep (fun j a b => h0 j (by omega) (by omega) (by omega) (by omega)) (hf 58 (by decide)) (hf 59 (by decide)) (hf 60 (by decide)) (hf 61 (by decide)), h.2.2.2.2.1.keep (hf 58 (by decide)) (hf 59 (by decide)), h1, h.2.2.2.2.2.2.1, h2⟩
theorem AbsM.told {v : Int32} (h : AbsM rw tx P ds sh tl ch fn I J) : AbsM rw tx P ds sh v ch fn (upR I 48 (upd (I 48) 20 v)) J := by
  refine h.up0 (Fr.rf.up (by decide)) (fun j _ _ h2 _ => by rw [upR_s, pk_un h2]) (by rw [upR_s, pk_us]) ⟨?_, fun j hj => ?_⟩
  · rw [upR_s, pk_un (by decide)]; exact h.2.2.2.2.2.2.2.1
  · rw [upR_n (by decide)]; exact h.2.2.2.2.2.2.2.2 j hj
def scrM : List Nat := [53, 56, 57, 63, 64]
theorem AbsM.scr (h : AbsM rw tx P ds sh tl ch fn I J) (hf : Fr scrM I I') : AbsM rw tx P ds sh tl ch fn I' J :=
  ⟨h.1.keep (hf 49 (by decide)) (fun _ _ => hf 50 (by decide)), h.2.1.keep (hf 51 (by decide)) (fun _ _ => hf 52 (by decide)), h.2.2.1.keep (by rw [hf 48 (by decide)]) (by rw [hf 48 (by decide)]) (hf 54 (by decide)) (hf 55 (by decide)), h.2.2.2.1.keep (fun _ _ _ => by rw [hf 48 (by decide)]) (hf 58 (by decide)) (hf 59 (by decide)) (hf 60 (by decide)) (hf 61 (by decide)), h.2.2.2.2.1.keep (hf 58 (by decide)) (hf 59 (by decide)), by rw [hf 48 (by decide)]; exact h.2.2.2.2.2.1, h.2.2.2.2.2.2.1, by rw [hf 48 (by decide)]; exact h.2.2.2.2.2.2.2.1, fun j hj => by rw [hf 62 (by decide)]; exact h.2.2.2.2.2.2.2.2 j hj⟩
end
end
