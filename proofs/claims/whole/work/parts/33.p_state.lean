/-! the whole state: four files, five tags' sorts, twelve copies; how both sides hold it -/
abbrev GS : Type := (Nat → FS) × (Nat → Int) × (Nat → Int) × (Nat → Int) × (Nat → Int) × (Nat → Int)
abbrev gF (s : GS) : Nat → FS := s.1
abbrev gso (s : GS) : Nat → Int := s.2.1
abbrev gen (s : GS) : Nat → Int := s.2.2.1
abbrev gou (s : GS) : Nat → Int := s.2.2.2.1
abbrev gmi (s : GS) : Nat → Int := s.2.2.2.2.1
abbrev gsk (s : GS) : Nat → Int := s.2.2.2.2.2
def RelC (s : GS) (M : fMem) : Prop := (∀ f, f < 4 → RC (2 + 11 * f) (gF s f) M) ∧ (∀ t, t < 5 → M 59 t = gso s t) ∧ ∀ k, k < 12 → M (47 + k) 0 = gen s k ∧ M (47 + k) 1 = gou s k ∧ M (47 + k) 2 = gmi s k ∧ M (47 + k) 3 = gsk s k
def RelM (s : GS) (M : fMem) : Prop := (∀ f, f < 4 → RM f (gF s f) M) ∧ (∀ t, t < 5 → M 126 t = gso s t) ∧ ∀ k, k < 12 → M 128 k = gen s k ∧ M 129 k = gou s k ∧ M 130 k = gmi s k ∧ M 131 k = gsk s k
/-- a copy's invariant -/
def CI (so : Nat → Int) (A : FS) (e o m t : Int) : Prop := (e = -1 ∨ e = -2 ∨ (0 ≤ e ∧ e < (sn A : Int))) ∧ (o = 0 ∨ (o = 1 ∧ 0 ≤ e)) ∧ tOk m ∧ (t = -1 ∨ (0 ≤ t ∧ t < 5 ∧ so t.toNat ≠ 0))
def Inv (s : GS) : Prop := (∀ f, f < 4 → AI (gF s f) (gso s)) ∧ (∀ t, t < 5 → gso s t = 0 ∨ gso s t = 1 ∨ gso s t = 2) ∧ ∀ c f, c < 3 → f < 4 → CI (gso s) (gF s f) (gen s (4 * c + f)) (gou s (4 * c + f)) (gmi s (4 * c + f)) (gsk s (4 * c + f))
theorem RelC.fr {s : GS} {M M' : fMem} (h : RelC s M) (hf : ∀ q k, q < 60 → M' q k = M q k) : RelC s M' :=
  ⟨fun f hf4 => (h.1 f hf4).fr (fun q k _ h2 => hf q k (by omega)), fun t ht => by rw [hf _ _ (by omega)]; exact h.2.1 t ht, fun k hk => by rw [hf _ _ (by omega), hf _ _ (by omega), hf _ _ (by omega), hf _ _ (by omega)]; exact h.2.2 k hk⟩
theorem RelM.fr {s : GS} {M M' : fMem} (h : RelM s M) (hf : ∀ q k, 116 ≤ q → q < 132 → M' q k = M q k) : RelM s M' :=
  ⟨fun f hf4 => (h.1 f hf4).fr (fun q k hq => hf q k (by unfold inF at hq; omega) (by unfold inF at hq; omega)), fun t ht => by rw [hf _ _ (by omega) (by omega)]; exact h.2.1 t ht, fun k hk => by rw [hf _ _ (by omega) (by omega), hf _ _ (by omega) (by omega), hf _ _ (by omega) (by omega), hf _ _ (by omega) (by omega)]; exact h.2.2 k hk⟩
/-- the state with another file, another copy, another sort -/
def wF (s : GS) (f : Nat) (A : FS) : GS := (fun x => if x = f then A else gF s x, gso s, gen s, gou s, gmi s, gsk s)
def wC (s : GS) (k : Nat) (e o m t : Int) : GS := (gF s, gso s, pup (gen s) k e, pup (gou s) k o, pup (gmi s) k m, pup (gsk s) k t)
def wS (s : GS) (t : Nat) (v : Int) : GS := (gF s, pup (gso s) t v, gen s, gou s, gmi s, gsk s)
theorem RelC.wF {s : GS} {M M' : fMem} {f : Nat} {A : FS} (h : RelC s M) (hf : f < 4) (hA : RC (2 + 11 * f) A M') (hfr : frP (2 + 11 * f) M M') : RelC (wF s f A) M' := by
  refine ⟨fun x hx => ?_, fun t ht => by rw [hfr _ _ (by omega)]; exact h.2.1 t ht, fun k hk => by rw [hfr _ _ (by omega), hfr _ _ (by omega), hfr _ _ (by omega), hfr _ _ (by omega)]; exact h.2.2 k hk⟩
  show RC (2 + 11 * x) (if x = f then A else gF s x) M'
  by_cases hxf : x = f
  · subst hxf; rw [if_pos rfl]; exact hA
  · rw [if_neg hxf]; exact (h.1 x hx).fr (fun q k h1 h2 => hfr q k (by omega))
theorem RelM.wF {s : GS} {M M' : fMem} {f : Nat} {A : FS} (h : RelM s M) (hf : f < 4) (hA : RM f A M') (hfr : frM f M M') : RelM (wF s f A) M' := by
  refine ⟨fun x hx => ?_, fun t ht => by rw [hfr _ _ (by unfold inF; omega)]; exact h.2.1 t ht, fun k hk => by rw [hfr _ _ (by unfold inF; omega), hfr _ _ (by unfold inF; omega), hfr _ _ (by unfold inF; omega), hfr _ _ (by unfold inF; omega)]; exact h.2.2 k hk⟩
  show RM x (if x = f then A else gF s x) M'
  by_cases hxf : x = f
  · subst hxf; rw [if_pos rfl]; exact hA
  · rw [if_neg hxf]; exact (h.1 x hx).fr (fun q k hq => hfr q k (by unfold inF at hq ⊢; omega))
theorem RelC.wC {s : GS} {M M' : fMem} {k : Nat} {e o m t : Int} (h : RelC s M) (hk : k < 12) (hv : M' (47 + k) 0 = e ∧ M' (47 + k) 1 = o ∧ M' (47 + k) 2 = m ∧ M' (47 + k) 3 = t) (hfr : ∀ q j, q ≠ 47 + k → M' q j = M q j) : RelC (wC s k e o m t) M' := by
  refine ⟨fun x hx => (h.1 x hx).fr (fun q j h1 h2 => hfr q j (by omega)), fun t ht => by rw [hfr _ _ (by omega)]; exact h.2.1 t ht, fun k' hk' => ?_⟩
  show M' (47 + k') 0 = pup (gen s) k e k' ∧ M' (47 + k') 1 = pup (gou s) k o k' ∧ M' (47 + k') 2 = pup (gmi s) k m k' ∧ M' (47 + k') 3 = pup (gsk s) k t k'
  by_cases hkk : k' = k
  · subst hkk; rw [pup_s, pup_s, pup_s, pup_s]; exact hv
  · rw [pup_n hkk, pup_n hkk, pup_n hkk, pup_n hkk, hfr _ _ (by omega), hfr _ _ (by omega), hfr _ _ (by omega), hfr _ _ (by omega)]
    exact h.2.2 k' hk'
theorem RelM.wC {s : GS} {M M' : fMem} {k : Nat} {e o m t : Int} (h : RelM s M) (hv : M' 128 k = e ∧ M' 129 k = o ∧ M' 130 k = m ∧ M' 131 k = t) (hfr : ∀ q j, ¬ (128 ≤ q ∧ q ≤ 131 ∧ j = k) → M' q j = M q j) : RelM (wC s k e o m t) M' := by
  refine ⟨fun x hx => (h.1 x hx).fr (fun q j hq => hfr q j (by unfold inF at hq; omega)), fun t ht => by rw [hfr _ _ (by omega)]; exact h.2.1 t ht, fun k' hk' => ?_⟩
  show M' 128 k' = pup (gen s) k e k' ∧ M' 129 k' = pup (gou s) k o k' ∧ M' 130 k' = pup (gmi s) k m k' ∧ M' 131 k' = pup (gsk s) k t k'
  by_cases hkk : k' = k
  · subst hkk; rw [pup_s, pup_s, pup_s, pup_s]; exact hv
  · rw [pup_n hkk, pup_n hkk, pup_n hkk, pup_n hkk, hfr _ _ (by omega), hfr _ _ (by omega), hfr _ _ (by omega), hfr _ _ (by omega)]
    exact h.2.2 k' hk'
theorem RelC.wS {s : GS} {M : fMem} (h : RelC s M) (t : Nat) (v : Int) : RelC (wS s t v) (fup M 59 t v) := by
  refine ⟨fun x hx => (h.1 x hx).fr (fun q j h1 h2 => fup_ne (by omega)), fun t' ht => ?_, fun k hk => by rw [fup_ne (by omega), fup_ne (by omega), fup_ne (by omega), fup_ne (by omega)]; exact h.2.2 k hk⟩
  show _ = pup (gso s) t v t'
  by_cases htt : t' = t
  · subst htt; rw [fup_self, pup_s]
  · rw [fup_ne (by omega), pup_n htt]; exact h.2.1 t' ht
theorem RelM.wS {s : GS} {M : fMem} (h : RelM s M) (t : Nat) (v : Int) : RelM (wS s t v) (fup M 126 t v) := by
  refine ⟨fun x hx => (h.1 x hx).fr (fun q j hq => fup_ne (by unfold inF at hq; omega)), fun t' ht => ?_, fun k hk => by rw [fup_ne (by omega), fup_ne (by omega), fup_ne (by omega), fup_ne (by omega)]; exact h.2.2 k hk⟩
  show _ = pup (gso s) t v t'
  by_cases htt : t' = t
  · subst htt; rw [fup_self, pup_s]
  · rw [fup_ne (by omega), pup_n htt]; exact h.2.1 t' ht
theorem Inv.wC {s : GS} (h : Inv s) {c f : Nat} (hc : c < 3) (hf : f < 4) {e o m t : Int} (hv : CI (gso s) (gF s f) e o m t) : Inv (wC s (4 * c + f) e o m t) := by
  refine ⟨h.1, h.2.1, fun c' f' hc' hf' => ?_⟩
  show CI (gso s) (gF s f') (pup (gen s) (4 * c + f) e (4 * c' + f')) (pup (gou s) (4 * c + f) o (4 * c' + f')) (pup (gmi s) (4 * c + f) m (4 * c' + f')) (pup (gsk s) (4 * c + f) t (4 * c' + f'))
  by_cases hk : 4 * c' + f' = 4 * c + f
  · have : f' = f := by omega
    subst this
    rw [hk, pup_s, pup_s, pup_s, pup_s]
    exact hv
  · rw [pup_n hk, pup_n hk, pup_n hk, pup_n hk]
    exact h.2.2 c' f' hc' hf'
/-- another file state with no fewer revisions -/
theorem Inv.wF {s : GS} (h : Inv s) {f : Nat} {A : FS} (hA : AI A (gso s)) (hn : sn (gF s f) ≤ sn A) : Inv (wF s f A) := by
  refine ⟨fun x hx => ?_, h.2.1, fun c x hc hx => ?_⟩
  · show AI (if x = f then A else gF s x) (gso s)
    by_cases hxf : x = f
    · rw [if_pos hxf]; exact hA
    · rw [if_neg hxf]; exact h.1 x hx
  · show CI (gso s) (if x = f then A else gF s x) (gen s (4 * c + x)) (gou s (4 * c + x)) (gmi s (4 * c + x)) (gsk s (4 * c + x))
    by_cases hxf : x = f
    · subst hxf
      rw [if_pos rfl]
      obtain ⟨h1, h2, h3, h4⟩ := h.2.2 c x hc hx
      exact ⟨by omega, h2, h3, h4⟩
    · rw [if_neg hxf]; exact h.2.2 c x hc hx
/-- both sides answer alike, and hold one state again -/
def Gd (In : Int → Prop) (d5 d6 : fMem → fOp) (M : fMem) : Prop := ∃ (v : Int) (M1 M2 : fMem) (s : GS), d5 M = some (v, M1) ∧ d6 M1 = some (v, M2) ∧ In v ∧ RelC s M2 ∧ RelM s M2 ∧ Inv s
theorem Gd.same {In : Int → Prop} {d5 d6 : fMem → fOp} {M : fMem} {s : GS} (hC : RelC s M) (hM : RelM s M) (hI : Inv s) {v : Int} (h5 : d5 M = some (v, M)) (h6 : d6 M = some (v, M)) (hv : In v) : Gd In d5 d6 M := ⟨v, M, M, s, h5, h6, hv, hC, hM, hI⟩
theorem ev_isClient {a : Int} (h : InI a) (M : fMem) : dn_X5_isClient a M = some (b2 (0 ≤ a ∧ a < 3), M) := by
  rw [dn_X5_isClient, e_Lt ⟨h, by omega⟩, e_Le ⟨by omega, h⟩, fRz_0, fRz_1]
  by_cases h1 : a < 0
  · rw [if_pos h1, b2_f (by omega)]
  · rw [if_neg h1]
    by_cases h2 : 3 ≤ a
    · rw [if_pos h2, b2_f (by omega)]
    · rw [if_neg h2, b2_t (by omega)]
theorem ev_isFile {a : Int} (h : InI a) (M : fMem) : dn_X5_isFile a M = some (b2 (0 ≤ a ∧ a < 4), M) := by
  rw [dn_X5_isFile, e_Lt ⟨h, by omega⟩, e_Le ⟨by omega, h⟩, fRz_0, fRz_1]
  by_cases h1 : a < 0
  · rw [if_pos h1, b2_f (by omega)]
  · rw [if_neg h1]
    by_cases h2 : 4 ≤ a
    · rw [if_pos h2, b2_f (by omega)]
    · rw [if_neg h2, b2_t (by omega)]
theorem ev_isTag {a : Int} (h : InI a) (M : fMem) : dn_X5_isTag a M = some (b2 (0 ≤ a ∧ a < 5), M) := by
  rw [dn_X5_isTag, e_Lt ⟨h, by omega⟩, e_Le ⟨by omega, h⟩, fRz_0, fRz_1]
  by_cases h1 : a < 0
  · rw [if_pos h1, b2_f (by omega)]
  · rw [if_neg h1]
    by_cases h2 : 5 ≤ a
    · rw [if_pos h2, b2_f (by omega)]
    · rw [if_neg h2, b2_t (by omega)]
theorem ev_below6 {v w : Int} (hv : InI v) (hw : InI w) (M : fMem) : dn_X6_below v w M = some (b2 (0 ≤ v ∧ v < w), M) := by
  rw [dn_X6_below, e_Lt ⟨hv, by omega⟩, e_Le ⟨hw, hv⟩, fRz_0, fRz_1]
  by_cases h1 : v < 0
  · rw [if_pos h1, b2_f (by omega)]
  · rw [if_neg h1]
    by_cases h2 : w ≤ v
    · rw [if_pos h2, b2_f (by omega)]
    · rw [if_neg h2, b2_t (by omega)]
theorem ev_noPair6 {a1 a2 : Int} (h1 : InI a1) (h2 : InI a2) (M : fMem) : dn_X6_noPair a1 a2 M = some (b2 (¬ ((0 ≤ a1 ∧ a1 < 3) ∧ (0 ≤ a2 ∧ a2 < 4))), M) := by
  rw [dn_X6_noPair, e_Cl (ev_below6 h1 (by omega) M), fEq_b2, e_Cl (ev_below6 h2 (by omega) M), fEq_b2]
  simp only [dn_X6_noPair_J16]
  rw [fRz_0, fRz_1]
  by_cases c1 : 0 ≤ a1 ∧ a1 < 3
  · rw [if_pos c1]
    by_cases c2 : 0 ≤ a2 ∧ a2 < 4
    · rw [if_pos c2, b2_f (fun q => q ⟨c1, c2⟩)]
    · rw [if_neg c2, b2_t (show ¬ ((0 ≤ a1 ∧ a1 < 3) ∧ (0 ≤ a2 ∧ a2 < 4)) from fun q => c2 q.2)]
  · rw [if_neg c1, b2_t (show ¬ ((0 ≤ a1 ∧ a1 < 3) ∧ (0 ≤ a2 ∧ a2 < 4)) from fun q => c1 q.1)]
theorem ev_copyOf {c f : Nat} (hc : c < 3) (hf : f < 4) (M : fMem) : dn_X5_copyOf (c : Int) (f : Int) M = some (((47 + (4 * c + f) : Nat) : Int), M) := by
  rw [dn_X5_copyOf, e_Ix (4 * c + f) (by omega) (by omega), Nat.one_mul]
/-- arguments of a call on a pair: either both refuse, or they are a client and a file -/
theorem pair_cases (a1 a2 : Int) : (¬ ((0 ≤ a1 ∧ a1 < 3) ∧ (0 ≤ a2 ∧ a2 < 4))) ∨ ∃ c f : Nat, a1 = (c : Int) ∧ a2 = (f : Int) ∧ c < 3 ∧ f < 4 := by
  by_cases h : (0 ≤ a1 ∧ a1 < 3) ∧ (0 ≤ a2 ∧ a2 < 4)
  · exact Or.inr ⟨a1.toNat, a2.toNat, by omega, by omega, by omega, by omega⟩
  · exact Or.inl h
/-- the class's opening of a call on a pair -/
theorem open5_no {a1 a2 : Int} (h1 : InI a1) (h2 : InI a2) (h : ¬ ((0 ≤ a1 ∧ a1 < 3) ∧ (0 ≤ a2 ∧ a2 < 4))) (M : fMem) (x : fMem → fOp) (k : fMem → fOp) : fCl (dn_X5_isClient a1 M) (fun v1 M2 => fEq v1 0 (x M2) (fCl (dn_X5_isFile a2 M2) (fun v3 M4 => fEq v3 0 (x M4) (k M4)))) = x M := by
  rw [e_Cl (ev_isClient h1 M), fEq_b2, e_Cl (ev_isFile h2 M), fEq_b2]
  by_cases c1 : 0 ≤ a1 ∧ a1 < 3
  · rw [if_pos c1, if_neg (fun q => h ⟨c1, q⟩)]
  · rw [if_neg c1]
theorem open5 {c f : Nat} (hc : c < 3) (hf : f < 4) (M : fMem) (x : fMem → fOp) (k : fMem → fOp) : fCl (dn_X5_isClient (c : Int) M) (fun v1 M2 => fEq v1 0 (x M2) (fCl (dn_X5_isFile (f : Int) M2) (fun v3 M4 => fEq v3 0 (x M4) (k M4)))) = k M := by
  rw [e_Cl (ev_isClient (by omega) M), fEq_b2, e_Cl (ev_isFile (by omega) M), fEq_b2, if_pos (by omega), if_pos (by omega)]
theorem copy5 {c f : Nat} (hc : c < 3) (hf : f < 4) (M : fMem) (k : Nat → fMem → fOp) : fCl (dn_X5_copyOf (c : Int) (f : Int) M) (fun v5 M6 => fCk v5 (fun P7 => k P7 M6)) = k (47 + (4 * c + f)) M := by
  rw [e_Cl (ev_copyOf hc hf M), e_Ck (47 + (4 * c + f)) rfl (by omega)]
theorem open6_no {a1 a2 : Int} (h1 : InI a1) (h2 : InI a2) (h : ¬ ((0 ≤ a1 ∧ a1 < 3) ∧ (0 ≤ a2 ∧ a2 < 4))) (M : fMem) (x k : fMem → fOp) : fCl (dn_X6_noPair a1 a2 M) (fun v1 M2 => fEq v1 0 (k M2) (x M2)) = x M := by
  rw [e_Cl (ev_noPair6 h1 h2 M), fEq_b2, if_pos h]
theorem open6 {c f : Nat} (hc : c < 3) (hf : f < 4) (M : fMem) (x k : fMem → fOp) : fCl (dn_X6_noPair (c : Int) (f : Int) M) (fun v1 M2 => fEq v1 0 (k M2) (x M2)) = k M := by
  rw [e_Cl (ev_noPair6 (by omega) (by omega) M), fEq_b2, if_neg (fun q => q ⟨by omega, by omega⟩)]
section PS
variable {s : GS} {M : fMem}
theorem Inv.en_in (hI : Inv s) {c f : Nat} (hc : c < 3) (hf : f < 4) : InI (gen s (4 * c + f)) ∧ InI (gou s (4 * c + f)) ∧ InI (gsk s (4 * c + f)) ∧ InL (gmi s (4 * c + f)) := by
  obtain ⟨h1, h2, h3, h4⟩ := hI.2.2 c f hc hf
  have h5 := (hI.1 f hf).1.1
  obtain ⟨t1, t2, -⟩ := h3
  exact ⟨by omega, by omega, by omega, by omega⟩
theorem gd_entry (hC : RelC s M) (hM : RelM s M) (hI : Inv s) {a1 a2 : Int} (h1 : InI a1) (h2 : InI a2) : Gd InI (dn_X5_entry a1 a2) (dn_X6_entry a1 a2) M := by
  rcases pair_cases a1 a2 with h | ⟨c, f, rfl, rfl, hc, hf⟩
  · exact Gd.same hC hM hI (v := -1) (by rw [dn_X5_entry]; exact open5_no h1 h2 h M _ _) (by rw [dn_X6_entry]; exact open6_no h1 h2 h M _ _) (by omega)
  · refine Gd.same hC hM hI (v := gen s (4 * c + f)) ?_ ?_ (hI.en_in hc hf).1
    · rw [dn_X5_entry]
      refine (open5 hc hf M _ _).trans ((copy5 hc hf M _).trans ?_)
      rw [fGt, (hC.2.2 _ (by omega)).1]
    · rw [dn_X6_entry]
      refine (open6 hc hf M _ _).trans ?_
      rw [e_Rd (4 * c + f) (by omega) (by omega), (hM.2.2 _ (by omega)).1]
theorem gd_sticky (hC : RelC s M) (hM : RelM s M) (hI : Inv s) {a1 a2 : Int} (h1 : InI a1) (h2 : InI a2) : Gd InI (dn_X5_sticky a1 a2) (dn_X6_sticky a1 a2) M := by
  rcases pair_cases a1 a2 with h | ⟨c, f, rfl, rfl, hc, hf⟩
  · exact Gd.same hC hM hI (v := -1) (by rw [dn_X5_sticky]; exact open5_no h1 h2 h M _ _) (by rw [dn_X6_sticky]; exact open6_no h1 h2 h M _ _) (by omega)
  · refine Gd.same hC hM hI (v := gsk s (4 * c + f)) ?_ ?_ (hI.en_in hc hf).2.2.1
    · rw [dn_X5_sticky]
      refine (open5 hc hf M _ _).trans ((copy5 hc hf M _).trans ?_)
      rw [fGt, (hC.2.2 _ (by omega)).2.2.2]
    · rw [dn_X6_sticky]
      refine (open6 hc hf M _ _).trans ?_
      rw [e_Rd (4 * c + f) (by omega) (by omega), (hM.2.2 _ (by omega)).2.2.2]
theorem gd_removed (hC : RelC s M) (hM : RelM s M) (hI : Inv s) {a1 a2 : Int} (h1 : InI a1) (h2 : InI a2) : Gd InI (dn_X5_removed a1 a2) (dn_X6_removed a1 a2) M := by
  rcases pair_cases a1 a2 with h | ⟨c, f, rfl, rfl, hc, hf⟩
  · exact Gd.same hC hM hI (v := 0) (by rw [dn_X5_removed]; exact (open5_no h1 h2 h M _ _).trans (fRz_0 M)) (by rw [dn_X6_removed]; exact (open6_no h1 h2 h M _ _).trans (fRz_0 M)) (by omega)
  · have hin := hI.en_in hc hf
    have hci := (hI.2.2 c f hc hf).2.1
    refine Gd.same hC hM hI (v := b2 (¬ gou s (4 * c + f) = 0)) ?_ ?_ (b2_in _)
    · rw [dn_X5_removed]
      refine (open5 hc hf M _ _).trans ((copy5 hc hf M _).trans ?_)
      rw [fGt, (hC.2.2 _ (by omega)).2.1, e_Eq ⟨hin.2.1, by omega⟩, fRz_0, fRz_1]
      by_cases h0 : gou s (4 * c + f) = 0
      · rw [if_pos h0, b2_f (fun q => q h0)]
      · rw [if_neg h0, b2_t h0]
    · rw [dn_X6_removed]
      refine (open6 hc hf M _ _).trans ?_
      rw [e_Rd (4 * c + f) (by omega) (by omega), (hM.2.2 _ (by omega)).1, e_Lt ⟨hin.1, by omega⟩, e_Rd (4 * c + f) (by omega) (by omega), (hM.2.2 _ (by omega)).2.1, e_Eq ⟨hin.2.1, by omega⟩, fRz_0, fRz_1]
      by_cases hlt : gen s (4 * c + f) < 0
      · rw [if_pos hlt, b2_f (fun q => q (by omega))]
      · rw [if_neg hlt]
        by_cases h0 : gou s (4 * c + f) = 0
        · rw [if_pos h0, b2_f (fun q => q h0)]
        · rw [if_neg h0, b2_t h0]
/-- a copy has a text -/
def hasT (s : GS) (k : Nat) : Prop := gen s k ≠ -1 ∧ gou s k = 0
theorem ev_hasText5 (hC : RelC s M) (hI : Inv s) {c f : Nat} (hc : c < 3) (hf : f < 4) : dn_X0_hasText (47 + (4 * c + f)) M = some (b2 (gen s (4 * c + f) ≠ -1 ∧ gou s (4 * c + f) = 0), M) := by
  have hin := hI.en_in hc hf
  have hk := hC.2.2 (4 * c + f) (by omega)
  have e1 : dn_X0_hasEntry (47 + (4 * c + f)) M = some (b2 (gen s (4 * c + f) ≠ -1), M) := by
    rw [dn_X0_hasEntry, fGt, hk.1, e_Eq ⟨hin.1, by omega⟩, fRz_0, fRz_1]
    by_cases h0 : gen s (4 * c + f) = -1
    · rw [if_pos h0, b2_f (fun q => q h0)]
    · rw [if_neg h0, b2_t h0]
  rw [dn_X0_hasText, e_Cl e1, fEq_b2]
  by_cases h0 : gen s (4 * c + f) ≠ -1
  · rw [if_pos h0, fGt, hk.2.1, e_Eq ⟨hin.2.1, by omega⟩, fRz_0, fRz_1]
    by_cases h3 : gou s (4 * c + f) = 0
    · rw [if_pos h3, b2_t ⟨h0, h3⟩]
    · rw [if_neg h3, b2_f (fun q => h3 q.2)]
  · rw [if_neg h0, fRz_0, b2_f (fun q => h0 q.1)]
theorem ev_hasEntry5 (hC : RelC s M) (hI : Inv s) {c f : Nat} (hc : c < 3) (hf : f < 4) : dn_X0_hasEntry (47 + (4 * c + f)) M = some (b2 (gen s (4 * c + f) ≠ -1), M) := by
  have hin := hI.en_in hc hf
  rw [dn_X0_hasEntry, fGt, (hC.2.2 (4 * c + f) (by omega)).1, e_Eq ⟨hin.1, by omega⟩, fRz_0, fRz_1]
  by_cases h0 : gen s (4 * c + f) = -1
  · rw [if_pos h0, b2_f (fun q => q h0)]
  · rw [if_neg h0, b2_t h0]
theorem ev_hasRev5 (hC : RelC s M) (hI : Inv s) {c f : Nat} (hc : c < 3) (hf : f < 4) : dn_X0_hasRevision (47 + (4 * c + f)) M = some (b2 (0 ≤ gen s (4 * c + f)), M) := by
  have hin := hI.en_in hc hf
  rw [dn_X0_hasRevision, fGt, (hC.2.2 (4 * c + f) (by omega)).1, e_Lt ⟨hin.1, by omega⟩, fRz_0, fRz_1]
  by_cases h0 : gen s (4 * c + f) < 0
  · rw [if_pos h0, b2_f (by omega)]
  · rw [if_neg h0, b2_t (by omega)]
theorem ev_hasLocal6 (hM : RelM s M) (hI : Inv s) {c f : Nat} (hc : c < 3) (hf : f < 4) : dn_X6_hasLocal ((4 * (c : Int)) + (f : Int)) M = some (b2 (gen s (4 * c + f) ≠ -1 ∧ gou s (4 * c + f) = 0), M) := by
  have hin := hI.en_in hc hf
  have hk := hM.2.2 (4 * c + f) (by omega)
  rw [dn_X6_hasLocal, e_Rd (4 * c + f) (by omega) (by omega), hk.1, e_Eq ⟨hin.1, by omega⟩, e_Rd (4 * c + f) (by omega) (by omega), hk.2.1, e_Eq ⟨hin.2.1, by omega⟩, fRz_0, fRz_1]
  by_cases h0 : gen s (4 * c + f) = -1
  · rw [if_pos h0, b2_f (fun q => q.1 h0)]
  · rw [if_neg h0]
    by_cases h3 : gou s (4 * c + f) = 0
    · rw [if_pos h3, b2_t ⟨h0, h3⟩]
    · rw [if_neg h3, b2_f (fun q => h3 q.2)]
theorem gd_local (hC : RelC s M) (hM : RelM s M) (hI : Inv s) {a1 a2 : Int} (h1 : InI a1) (h2 : InI a2) : Gd InL (dn_X5_local a1 a2) (dn_X6_local a1 a2) M := by
  rcases pair_cases a1 a2 with h | ⟨c, f, rfl, rfl, hc, hf⟩
  · exact Gd.same hC hM hI (v := -1) (by rw [dn_X5_local]; exact open5_no h1 h2 h M _ _) (by rw [dn_X6_local]; exact open6_no h1 h2 h M _ _) (by omega)
  · have hin := hI.en_in hc hf
    refine Gd.same hC hM hI (v := if gen s (4 * c + f) ≠ -1 ∧ gou s (4 * c + f) = 0 then gmi s (4 * c + f) else -1) ?_ ?_ (by split <;> omega)
    · rw [dn_X5_local]
      refine (open5 hc hf M _ _).trans ((copy5 hc hf M _).trans ?_)
      rw [e_Cl (ev_hasText5 hC hI hc hf), fEq_b2]
      by_cases h3 : gen s (4 * c + f) ≠ -1 ∧ gou s (4 * c + f) = 0
      · rw [if_pos h3, if_pos h3, fGt, (hC.2.2 _ (by omega)).2.2.1]
      · rw [if_neg h3, if_neg h3]
    · rw [dn_X6_local]
      refine (open6 hc hf M _ _).trans ?_
      rw [e_Cl (ev_hasLocal6 hM hI hc hf), fEq_b2]
      by_cases h3 : gen s (4 * c + f) ≠ -1 ∧ gou s (4 * c + f) = 0
      · rw [if_pos h3, if_pos h3, e_Rd (4 * c + f) (by omega) (by omega), (hM.2.2 _ (by omega)).2.2.1]
      · rw [if_neg h3, if_neg h3]
        rfl
end PS
