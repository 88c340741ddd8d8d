/-! update -/
section PO5
variable {s : GS} {M : fMem}
theorem e_00 {α : Type} (x y : Option α) : fEq 0 0 x y = x := e_Eqt ⟨in0, in0⟩ rfl
theorem relC_wC' {s : GS} {M M' : fMem} {k : Nat} {e o m t : Int} (h : RelC s M) (hk : k < 12) (hv : M' (47 + k) 0 = e ∧ M' (47 + k) 1 = o ∧ M' (47 + k) 2 = m ∧ M' (47 + k) 3 = t) (hfr : ∀ q j, q < 60 → q ≠ 47 + k → M' q j = M q j) : RelC (wC s k e o m t) M' := by
  refine RelC.fr (M := fun q j => if q = 47 + k then M' q j else M q j) (h.wC hk ?_ (fun q j hq => if_neg hq)) (fun q j hq => ?_)
  · rw [if_pos rfl, if_pos rfl, if_pos rfl, if_pos rfl]; exact hv
  · by_cases c : q = 47 + k
    · rw [if_pos c]
    · rw [if_neg c]; exact hfr q j hq c
theorem relM_wC' {s : GS} {M M' : fMem} {k : Nat} {e o m t : Int} (h : RelM s M) (hv : M' 128 k = e ∧ M' 129 k = o ∧ M' 130 k = m ∧ M' 131 k = t) (hfr : ∀ q j, 116 ≤ q → q < 132 → ¬ (128 ≤ q ∧ q ≤ 131 ∧ j = k) → M' q j = M q j) : RelM (wC s k e o m t) M' := by
  refine RelM.fr (M := fun q j => if 128 ≤ q ∧ q ≤ 131 ∧ j = k then M' q j else M q j) (h.wC ?_ (fun q j hq => if_neg hq)) (fun q j h1 h2 => ?_)
  · rw [if_pos (by omega), if_pos (by omega), if_pos (by omega), if_pos (by omega)]; exact hv
  · by_cases c : 128 ≤ q ∧ q ≤ 131 ∧ j = k
    · rw [if_pos c]
    · rw [if_neg c]; exact hfr q j h1 h2 c
/-- a copy on the class's side, all else but the scratch as it was -/
def cpC (s : GS) (k : Nat) (M M1 : fMem) (e o m : Int) : Prop := (M1 (47 + k) 0 = e ∧ M1 (47 + k) 1 = o ∧ M1 (47 + k) 2 = m ∧ M1 (47 + k) 3 = gsk s k) ∧ ∀ q j, q ≠ 47 + k → ¬ (60 ≤ q ∧ q < 115) → M1 q j = M q j
def cpM (s : GS) (k : Nat) (N N1 : fMem) (e o m : Int) : Prop := (N1 128 k = e ∧ N1 129 k = o ∧ N1 130 k = m ∧ N1 131 k = gsk s k) ∧ ∀ q j, ¬ (128 ≤ q ∧ q ≤ 131 ∧ j = k) → ¬ (132 ≤ q ∧ q ≤ 135) → q ≠ 115 → N1 q j = N q j
theorem cpC.same (hC : RelC s M) {k : Nat} (hk : k < 12) {M1 : fMem} (hf : ∀ q j, ¬ (60 ≤ q ∧ q < 115) → M1 q j = M q j) : cpC s k M M1 (gen s k) (gou s k) (gmi s k) :=
  ⟨by rw [hf _ _ (by omega), hf _ _ (by omega), hf _ _ (by omega), hf _ _ (by omega)]; exact hC.2.2 k hk, fun q j _ h2 => hf q j h2⟩
theorem cpM.same (hM : RelM s M) {k : Nat} (hk : k < 12) {M1 : fMem} (hf : ∀ q j, ¬ (132 ≤ q ∧ q ≤ 135) → q ≠ 115 → M1 q j = M q j) : cpM s k M M1 (gen s k) (gou s k) (gmi s k) :=
  ⟨by rw [hf _ _ (by omega) (by omega), hf _ _ (by omega) (by omega), hf _ _ (by omega) (by omega), hf _ _ (by omega) (by omega)]; exact hM.2.2 k hk, fun q j _ h2 h3 => hf q j h2 h3⟩
theorem ev_isModified5 (hC : RelC s M) (hI : Inv s) {c f : Nat} (hc : c < 3) (hf : f < 4) (h0 : 0 ≤ gen s (4 * c + f)) : dn_X5_isModified (47 + (4 * c + f)) (2 + 11 * f) M = some (b2 (gmi s (4 * c + f) ≠ stx (gF s f) (gen s (4 * c + f)).toNat), M) := by
  have hk := hC.2.2 (4 * c + f) (by omega)
  have hin := hI.en_in hc hf
  have hA := hI.1 f hf
  have hg := (hI.2.2 c f hc hf).1
  have h5 := hA.1
  have ht := hA.2.1 (gen s (4 * c + f)).toNat (by omega)
  have hh := ht.1
  have hh2 := ht.2.1
  rw [dn_X5_isModified, fGt, fGt, hk.1, hk.2.2.1, e_Rd (gen s (4 * c + f)).toNat (by omega) (by omega), ((hC.1 f hf).2.1 _ (by omega)).1, e_EqL ⟨hin.2.2.2, by omega⟩, fRz_0, fRz_1]
  by_cases c1 : gmi s (4 * c + f) = stx (gF s f) (gen s (4 * c + f)).toNat
  · rw [if_pos c1, b2_f (fun q => q c1)]
  · rw [if_neg c1, b2_t c1]
theorem ev_modified6 (hM : RelM s M) (hI : Inv s) {c f : Nat} (hc : c < 3) (hf : f < 4) (h0 : 0 ≤ gen s (4 * c + f)) : dn_X6_modified (f : Int) ((4 * (c : Int)) + (f : Int)) M = some (b2 (gou s (4 * c + f) = 0 ∧ gmi s (4 * c + f) ≠ stx (gF s f) (gen s (4 * c + f)).toNat), M) := by
  have hk := hM.2.2 (4 * c + f) (by omega)
  have hin := hI.en_in hc hf
  have hA := hI.1 f hf
  have hg := (hI.2.2 c f hc hf).1
  have h5 := hA.1
  have ht := hA.2.1 (gen s (4 * c + f)).toNat (by omega)
  have hh := ht.1
  have hh2 := ht.2.1
  rw [dn_X6_modified, e_Rd (4 * c + f) (by omega) (by omega), hk.2.1, e_Eq ⟨hin.2.1, by omega⟩, e_Rd (4 * c + f) (by omega) (by omega), hk.2.2.1, e_Rd (4 * c + f) (by omega) (by omega), hk.1, e_Rd (24 * f + (gen s (4 * c + f)).toNat) (by omega) (by omega), ((hM.1 f hf).2.1 _ (by omega)).1, e_EqL ⟨hin.2.2.2, by omega⟩, fRz_0, fRz_1]
  by_cases c0 : gou s (4 * c + f) = 0
  · rw [if_pos c0]
    by_cases c1 : gmi s (4 * c + f) = stx (gF s f) (gen s (4 * c + f)).toNat
    · rw [if_pos c1, b2_f (fun q => q.2 c1)]
    · rw [if_neg c1, b2_t ⟨c0, c1⟩]
  · rw [if_neg c0, b2_f (fun q => c0 q.1)]
theorem cp_hold (hC : RelC s M) {k : Nat} (hk : k < 12) {M1 : fMem} (hf : ∀ q j, ¬ (60 ≤ q ∧ q < 115) → M1 q j = M q j) (e t : Int) : cpC s k M (fup (fup (fup M1 (47 + k) 0 e) (47 + k) 1 0) (47 + k) 2 t) e 0 t := by
  refine ⟨⟨?_, ?_, ?_, ?_⟩, fun q j h1 h2 => ?_⟩
  · rw [fup_ne (by omega), fup_ne (by omega), fup_self]
  · rw [fup_ne (by omega), fup_self]
  · rw [fup_self]
  · rw [fup_ne (by omega), fup_ne (by omega), fup_ne (by omega), hf _ _ (by omega)]; exact (hC.2.2 k hk).2.2.2
  · rw [fup_ne (by omega), fup_ne (by omega), fup_ne (by omega), hf _ _ h2]
theorem cp_drop (hC : RelC s M) {k : Nat} (hk : k < 12) : cpC s k M (fup (fup M (47 + k) 0 (-1)) (47 + k) 1 0) (-1) 0 (gmi s k) := by
  refine ⟨⟨?_, ?_, ?_, ?_⟩, fun q j h1 h2 => ?_⟩
  · rw [fup_ne (by omega), fup_self]
  · rw [fup_self]
  · rw [fup_ne (by omega), fup_ne (by omega)]; exact (hC.2.2 k hk).2.2.1
  · rw [fup_ne (by omega), fup_ne (by omega)]; exact (hC.2.2 k hk).2.2.2
  · rw [fup_ne (by omega), fup_ne (by omega)]
theorem cp_drop6 (hM : RelM s M) {k : Nat} (hk : k < 12) : cpM s k M (fup (fup M 128 k (-1)) 129 k 0) (-1) 0 (gmi s k) := by
  refine ⟨⟨?_, ?_, ?_, ?_⟩, fun q j h1 h2 h3 => ?_⟩
  · rw [fup_ne (by omega), fup_self]
  · rw [fup_self]
  · rw [fup_ne (by omega), fup_ne (by omega)]; exact (hM.2.2 k hk).2.2.1
  · rw [fup_ne (by omega), fup_ne (by omega)]; exact (hM.2.2 k hk).2.2.2
  · rw [fup_ne (by omega), fup_ne (by omega)]
theorem ev_take6 (hM : RelM s M) (hI : Inv s) {c f r : Nat} (hc : c < 3) (hf : f < 4) (hr : r < sn (gF s f)) : ∃ N, dn_X6_take (f : Int) ((4 * (c : Int)) + (f : Int)) (r : Int) M = some (0, N) ∧ cpM s (4 * c + f) M N (r : Int) 0 (stx (gF s f) r) := by
  have hA := hI.1 f hf
  have h5 := hA.1
  rw [dn_X6_take, e_Wr (4 * c + f) (by omega) (by omega), e_Wz (4 * c + f) (by omega) (by omega) (by omega), e_Rd (24 * f + r) (by omega) (by omega), fup_ne (by omega), fup_ne (by omega), ((hM.1 f hf).2.1 r (by omega)).1, e_Wr (4 * c + f) (by omega) (by omega)]
  refine ⟨_, rfl, ⟨?_, ?_, ?_, ?_⟩, fun q j h1 h2 h3 => ?_⟩
  · rw [fup_ne (by omega), fup_ne (by omega), fup_self]
  · rw [fup_ne (by omega), fup_self]
  · rw [fup_self]
  · rw [fup_ne (by omega), fup_ne (by omega), fup_ne (by omega)]; exact (hM.2.2 _ (by omega)).2.2.2
  · rw [fup_ne (by omega), fup_ne (by omega), fup_ne (by omega)]
theorem merged_ok {o a b : Nat} (ho : lnOk o) (ha : lnOk a) (hb : lnOk b) (hl : (mres o a b).1.length ≤ 12) : tOk ((pk (mres o a b).1 : Nat) : Int) := by
  have h1 := mres_ok ho ha hb
  have h2 := pkl_lt _ _ rfl (fun x hx => by have := h1 x hx; omega : ∀ x ∈ (mres o a b).1, x < 32)
  have h3 : 32 ^ (mres o a b).1.length ≤ 32 ^ 12 := Nat.pow_le_pow_right (by omega) hl
  have h4 : (32 : Nat) ^ 12 = 1152921504606846976 := by decide
  exact ⟨by omega, by omega, by rw [Int.toNat_natCast]; exact pk_okR _ _ rfl h1 12 hl⟩
/-- what an update does to a copy, on both sides -/
theorem ev_upd (hC : RelC s M) (hI : Inv s) {c f : Nat} (hc : c < 3) (hf : f < 4) {r : Int} (hr : r = -1 ∨ (0 ≤ r ∧ r < (sn (gF s f) : Int))) :
    ∃ v e o m M1, dn_X5_updateCopy (47 + (4 * c + f)) (2 + 11 * f) r M = some (v, M1) ∧ cpC s (4 * c + f) M M1 e o m ∧ (∀ N, RelM s N → ∃ N1, dn_X6_updated (f : Int) ((4 * (c : Int)) + (f : Int)) r N = some (v, N1) ∧ cpM s (4 * c + f) N N1 e o m) ∧ InI v ∧ ∀ t, (t = -1 ∨ (0 ≤ t ∧ t < 5 ∧ gso s t.toNat ≠ 0)) → CI (gso s) (gF s f) e o m t := by
  have hk := hC.2.2 (4 * c + f) (by omega)
  have hin := hI.en_in hc hf
  have hA := hI.1 f hf
  have hR := hC.1 f hf
  have h5 := hA.1
  obtain ⟨i1, i2, i3, i4⟩ := hI.2.2 c f hc hf
  have same : ∀ v : Int, InI v → (∃ M1, dn_X5_updateCopy (47 + (4 * c + f)) (2 + 11 * f) r M = some (v, M1) ∧ ∀ q j, ¬ (60 ≤ q ∧ q < 115) → M1 q j = M q j) → (∀ N, RelM s N → ∃ N1, dn_X6_updated (f : Int) ((4 * (c : Int)) + (f : Int)) r N = some (v, N1) ∧ ∀ q j, ¬ (132 ≤ q ∧ q ≤ 135) → q ≠ 115 → N1 q j = N q j) → ∃ v e o m M1, dn_X5_updateCopy (47 + (4 * c + f)) (2 + 11 * f) r M = some (v, M1) ∧ cpC s (4 * c + f) M M1 e o m ∧ (∀ N, RelM s N → ∃ N1, dn_X6_updated (f : Int) ((4 * (c : Int)) + (f : Int)) r N = some (v, N1) ∧ cpM s (4 * c + f) N N1 e o m) ∧ InI v ∧ ∀ t, (t = -1 ∨ (0 ≤ t ∧ t < 5 ∧ gso s t.toNat ≠ 0)) → CI (gso s) (gF s f) e o m t := by
    intro v hv ⟨M1, q1, q2⟩ h6
    refine ⟨v, _, _, _, M1, q1, cpC.same hC (by omega) q2, fun N hN => ?_, hv, fun t ht => ⟨i1, i2, i3, ht⟩⟩
    obtain ⟨N1, n1, n2⟩ := h6 N hN
    exact ⟨N1, n1, cpM.same hN (by omega) n2⟩
  have o5 : dn_X5_updateCopy (47 + (4 * c + f)) (2 + 11 * f) r M = if gen s (4 * c + f) = -2 then (if r ≠ -1 ∧ sdd (gF s f) r.toNat = 0 then some (3, M) else some (0, M)) else if r ≠ -1 ∧ sdd (gF s f) r.toNat = 0 then (if gen s (4 * c + f) ≠ -1 then (if gou s (4 * c + f) = 0 then (if gen s (4 * c + f) = r then some (0, M) else fCl (dn_X5_isModified (47 + (4 * c + f)) (2 + 11 * f) M) (fun v8 M9 => fEq v8 0 (fRd M9 (2 + 11 * f + 1) 24 r (fun x12 => fCl (dn_X0_hold (47 + (4 * c + f)) r x12 M9) (fun _ M14 => some (2, M14)))) (fCl (dn_X5_mergeInto (47 + (4 * c + f)) (2 + 11 * f) r M9) (fun v10 M11 => some (v10, M11))))) else some (0, M)) else fRd M (2 + 11 * f + 1) 24 r (fun x15 => fCl (dn_X0_hold (47 + (4 * c + f)) r x15 M) (fun _ M17 => some (2, M17)))) else fCl (dn_X5_updateToNothing (47 + (4 * c + f)) (2 + 11 * f) M) (fun v18 M19 => some (v18, M19)) := by
    rw [dn_X5_updateCopy, e_Cl (ev_isAlive hR hA hr), fGt, hk.1, e_Eq ⟨hin.1, by omega⟩, fEq_b2, fEq_b2, e_Cl (ev_hasEntry5 hC hI hc hf), fEq_b2, fGt, hk.2.1, e_Eq ⟨hin.2.1, by omega⟩, fGt, hk.1, e_Eq ⟨hin.1, by omega⟩]
  have o6 : ∀ N, RelM s N → dn_X6_updated (f : Int) ((4 * (c : Int)) + (f : Int)) r N = if gen s (4 * c + f) = -1 then (if r ≠ -1 ∧ sdd (gF s f) r.toNat = 0 then fCl (dn_X6_take (f : Int) ((4 * (c : Int)) + (f : Int)) r N) (fun _ M25 => some (2, M25)) else some (0, N)) else if gen s (4 * c + f) = -2 then (if r ≠ -1 ∧ sdd (gF s f) r.toNat = 0 then some (3, N) else some (0, N)) else if r ≠ -1 ∧ sdd (gF s f) r.toNat = 0 then dn_X6_updated_J79 (f : Int) ((4 * (c : Int)) + (f : Int)) r (gen s (4 * c + f)) 0 N else fCl (dn_X6_modified (f : Int) ((4 * (c : Int)) + (f : Int)) N) (fun v22 M23 => fEq v22 0 (dn_X6_updated_J79 (f : Int) ((4 * (c : Int)) + (f : Int)) r (gen s (4 * c + f)) 1 M23) (some (3, M23))) := by
    intro N hN
    rw [dn_X6_updated, e_Rd (4 * c + f) (by omega) (by omega), (hN.2.2 _ (by omega)).1, e_Cl (ev_noneOrDead6 hf (hN.1 f hf) hA hr), e_Eq ⟨hin.1, by omega⟩, e_Eq ⟨hin.1, by omega⟩]
    by_cases al : r ≠ -1 ∧ sdd (gF s f) r.toNat = 0
    · rw [b2_f (fun q => q al), if_pos al, if_pos al, if_pos al, e_Eqt ⟨by omega, by omega⟩ rfl, e_Eqt ⟨by omega, by omega⟩ rfl, e_Eqt ⟨by omega, by omega⟩ rfl]
      simp only [dn_X6_updated_J34, e_00]
    · rw [b2_t al, if_neg al, if_neg al, if_neg al, e_Eqf ⟨by omega, by omega⟩ (by omega), e_Eqf ⟨by omega, by omega⟩ (by omega), e_Eqf ⟨by omega, by omega⟩ (by omega), dn_X6_updated_J34, e_Eqf ⟨by omega, by omega⟩ (by omega)]
  by_cases al : r ≠ -1 ∧ sdd (gF s f) r.toNat = 0
  · obtain ⟨x, rfl⟩ := Int.eq_ofNat_of_zero_le (show 0 ≤ r by omega)
    have hx : x < sn (gF s f) := by omega
    have hxt := (hR.2.1 x (by omega)).1
    have take : ∀ t, (t = -1 ∨ (0 ≤ t ∧ t < 5 ∧ gso s t.toNat ≠ 0)) → CI (gso s) (gF s f) (x : Int) 0 (stx (gF s f) x) t := fun t ht => ⟨by omega, by omega, hA.2.1 x hx, ht⟩
    by_cases g2 : gen s (4 * c + f) = -2
    · refine same 3 (by omega) ⟨M, by rw [o5, if_pos g2, if_pos al], fun _ _ _ => rfl⟩ (fun N hN => ⟨N, by rw [o6 N hN, if_neg (by omega), if_pos g2, if_pos al], fun _ _ _ _ => rfl⟩)
    · by_cases g1 : gen s (4 * c + f) = -1
      · refine ⟨2, (x : Int), 0, stx (gF s f) x, _, ?_, cp_hold hC (by omega) (fun _ _ _ => rfl) _ _, fun N hN => ?_, by omega, take⟩
        · rw [o5, if_neg g2, if_pos al, if_neg (fun q => q g1), e_Rd x rfl (by omega), hxt, e_Cl (ev_hold M _ _ _)]
        · obtain ⟨N1, n1, n2⟩ := ev_take6 hN hI hc hf hx
          exact ⟨N1, by rw [o6 N hN, if_pos g1, if_pos al, e_Cl n1], n2⟩
      · have g0 : 0 ≤ gen s (4 * c + f) := by omega
        by_cases q0 : gou s (4 * c + f) = 0
        · by_cases gr : gen s (4 * c + f) = (x : Int)
          · refine same 0 (by omega) ⟨M, by rw [o5, if_neg g2, if_pos al, if_pos g1, if_pos q0, if_pos gr], fun _ _ _ => rfl⟩ (fun N hN => ⟨N, ?_, fun _ _ _ _ => rfl⟩)
            rw [o6 N hN, if_neg g1, if_neg g2, if_pos al, dn_X6_updated_J79, e_00, e_Rd (4 * c + f) (by omega) (by omega), (hN.2.2 _ (by omega)).2.1, e_Eqt ⟨hin.2.1, by omega⟩ q0, e_Eqt ⟨by omega, hin.1⟩ gr.symm]
          · by_cases md : gmi s (4 * c + f) ≠ stx (gF s f) (gen s (4 * c + f)).toNat
            · obtain ⟨to, po, po1, po2, po3, -⟩ := (hA.2.1 (gen s (4 * c + f)).toNat (by omega)).nat
              obtain ⟨ta, pa, pa1, pa2, pa3, -⟩ := i3.nat
              obtain ⟨tb, pb, pb1, pb2, pb3, -⟩ := (hA.2.1 x hx).nat
              obtain ⟨M', m1, m2, m3, m4⟩ := ev_merge5 (o := to) (a := ta) (b := tb) ⟨po2, by omega⟩ ⟨pa2, by omega⟩ ⟨pb2, by omega⟩ M
              have p5 : dn_X5_updateCopy (47 + (4 * c + f)) (2 + 11 * f) (x : Int) M = if ((mres to ta tb).1.length : Int) ≤ 12 then some (if (mres to ta tb).2 = true then 5 else 4, fup (fup (fup M' (47 + (4 * c + f)) 0 (x : Int)) (47 + (4 * c + f)) 1 0) (47 + (4 * c + f)) 2 (pk ((mres to ta tb).1.take 12) : Int)) else some (-7, M') := by
                rw [o5, if_neg g2, if_pos al, if_pos g1, if_pos q0, if_neg gr, e_Cl (ev_isModified5 hC hI hc hf g0), fEq_b2, if_pos md, dn_X5_mergeInto, fGt, hk.1, e_Rd (gen s (4 * c + f)).toNat (by omega) (by omega), (hR.2.1 _ (by omega)).1, fGt, hk.2.2.1, e_Rd x rfl (by omega), hxt, po, pa, pb, e_Cl m1, dn_X3_isTooLong, fGt, m2.1, e_Le ⟨by omega, by omega⟩, fRz_0, fRz_1]
                by_cases hl : ((mres to ta tb).1.length : Int) ≤ 12
                · rw [if_pos hl, if_pos hl, fCl_some, e_00, fGt, m2.2.1, e_Cl (ev_hold M' _ _ _), fGt, fup_ne (by omega), fup_ne (by omega), fup_ne (by omega), m2.2.2, fEq_b2]
                  by_cases hq : (mres to ta tb).2 = true
                  · rw [if_pos hq, if_pos hq, fCl_some]
                  · rw [if_neg hq, if_neg hq, fCl_some]
                · rw [if_neg hl, if_neg hl, fCl_some, e_Eqf ⟨by omega, by omega⟩ (by omega), fCl_some]
              have p6 : ∀ N, RelM s N → ∃ N', mO (mres to ta tb) N' ∧ (∀ q k, ¬ (132 ≤ q ∧ q ≤ 135) → q ≠ 115 → N' q k = N q k) ∧ dn_X6_updated (f : Int) ((4 * (c : Int)) + (f : Int)) (x : Int) N = if ((mres to ta tb).1.length : Int) ≤ 12 then fCl (dn_X6_mergedText N') (fun v13 M14 => fWr M14 130 12 ((4 * (c : Int)) + (f : Int)) v13 (fun M15 => fWr M15 128 12 ((4 * (c : Int)) + (f : Int)) (x : Int) (fun M16 => fGt M16 115 21 (fun x17 => fEq x17 0 (some (4, M16)) (some (5, M16)))))) else some (-7, N') := by
                intro N hN
                obtain ⟨N', n1, n2, n3⟩ := ev_merge6 (o := to) (a := ta) (b := tb) ⟨po2, by omega⟩ ⟨pa2, by omega⟩ ⟨pb2, by omega⟩ N
                refine ⟨N', n2, n3, ?_⟩
                rw [o6 N hN, if_neg g1, if_neg g2, if_pos al, dn_X6_updated_J79, e_00, e_Rd (4 * c + f) (by omega) (by omega), (hN.2.2 _ (by omega)).2.1, e_Eqt ⟨hin.2.1, by omega⟩ q0, e_Eqf ⟨by omega, hin.1⟩ (fun q => gr q.symm), e_Cl (ev_modified6 hN hI hc hf g0), fEq_b2, if_pos ⟨q0, md⟩, e_Rd (24 * f + (gen s (4 * c + f)).toNat) (by omega) (by omega), ((hN.1 f hf).2.1 _ (by omega)).1, e_Rd (4 * c + f) (by omega) (by omega), (hN.2.2 _ (by omega)).2.2.1, e_Rd (24 * f + x) (by omega) (by omega), ((hN.1 f hf).2.1 _ (by omega)).1, po, pa, pb, e_Cl n1, fGt, n2.1, e_Le ⟨by omega, by omega⟩]
              by_cases hl : ((mres to ta tb).1.length : Int) ≤ 12
              · have hl' : (mres to ta tb).1.length ≤ 12 := by omega
                rw [if_pos hl, List.take_of_length_le hl'] at p5
                refine ⟨_, (x : Int), 0, (pk (mres to ta tb).1 : Int), _, p5, cp_hold hC (by omega) (fun q j hq => m4 q j (by omega)) _ _, fun N hN => ?_, by split <;> omega, fun t ht => ⟨by omega, by omega, merged_ok po3 pa3 pb3 hl', ht⟩⟩
                obtain ⟨N', n1, n2, n3⟩ := p6 N hN
                have hmx := mres_ok po3 pa3 pb3
                refine ⟨fup (fup N' 130 (4 * c + f) (pk (mres to ta tb).1 : Int)) 128 (4 * c + f) (x : Int), ?_, ⟨?_, ?_, ?_, ?_⟩, fun q j h1 h2 h3 => ?_⟩
                · rw [n3, if_pos hl, e_Cl (ev_mergedText n1 hl' (fun y hy => by have := hmx y hy; omega)), e_Wr (4 * c + f) (by omega) (by omega), e_Wr (4 * c + f) (by omega) (by omega), fGt, fup_ne (by omega), fup_ne (by omega), n1.2.2, fEq_b2]
                  by_cases hq : (mres to ta tb).2 = true
                  · rw [if_pos hq, if_pos hq]
                  · rw [if_neg hq, if_neg hq]
                · rw [fup_self]
                · rw [fup_ne (by omega), fup_ne (by omega), n2 _ _ (by omega) (by omega), (hN.2.2 _ (by omega)).2.1]; exact q0
                · rw [fup_ne (by omega), fup_self]
                · rw [fup_ne (by omega), fup_ne (by omega), n2 _ _ (by omega) (by omega)]; exact (hN.2.2 _ (by omega)).2.2.2
                · rw [fup_ne (by omega), fup_ne (by omega), n2 _ _ h2 h3]
              · rw [if_neg hl] at p5
                refine same (-7) (by omega) ⟨M', p5, fun q j hq => m4 q j (by omega)⟩ (fun N hN => ?_)
                obtain ⟨N', n1, n2, n3⟩ := p6 N hN
                exact ⟨N', by rw [n3, if_neg hl], n2⟩
            · refine ⟨2, (x : Int), 0, stx (gF s f) x, _, ?_, cp_hold hC (by omega) (fun _ _ _ => rfl) _ _, fun N hN => ?_, by omega, take⟩
              · rw [o5, if_neg g2, if_pos al, if_pos g1, if_pos q0, if_neg gr, e_Cl (ev_isModified5 hC hI hc hf g0), fEq_b2, if_neg md, e_Rd x rfl (by omega), hxt, e_Cl (ev_hold M _ _ _)]
              · obtain ⟨N1, n1, n2⟩ := ev_take6 hN hI hc hf hx
                refine ⟨N1, ?_, n2⟩
                rw [o6 N hN, if_neg g1, if_neg g2, if_pos al, dn_X6_updated_J79, e_00, e_Rd (4 * c + f) (by omega) (by omega), (hN.2.2 _ (by omega)).2.1, e_Eqt ⟨hin.2.1, by omega⟩ q0, e_Eqf ⟨by omega, hin.1⟩ (fun q => gr q.symm), e_Cl (ev_modified6 hN hI hc hf g0), fEq_b2, if_neg (fun q => md q.2), e_Cl n1]
        · refine same 0 (by omega) ⟨M, by rw [o5, if_neg g2, if_pos al, if_pos g1, if_neg q0], fun _ _ _ => rfl⟩ (fun N hN => ⟨N, ?_, fun _ _ _ _ => rfl⟩)
          rw [o6 N hN, if_neg g1, if_neg g2, if_pos al, dn_X6_updated_J79, e_00, e_Rd (4 * c + f) (by omega) (by omega), (hN.2.2 _ (by omega)).2.1, e_Eqf ⟨hin.2.1, by omega⟩ q0]
  · by_cases g2 : gen s (4 * c + f) = -2
    · refine same 0 (by omega) ⟨M, by rw [o5, if_pos g2, if_neg al], fun _ _ _ => rfl⟩ (fun N hN => ⟨N, by rw [o6 N hN, if_neg (by omega), if_pos g2, if_neg al], fun _ _ _ _ => rfl⟩)
    · have u5 : dn_X5_updateToNothing (47 + (4 * c + f)) (2 + 11 * f) M = if gen s (4 * c + f) ≠ -1 then (if gou s (4 * c + f) = 0 then fCl (dn_X5_isModified (47 + (4 * c + f)) (2 + 11 * f) M) (fun v6 M7 => fEq v6 0 (dn_X5_updateToNothing_J26 (47 + (4 * c + f)) (2 + 11 * f) M7) (some (3, M7))) else dn_X5_updateToNothing_J26 (47 + (4 * c + f)) (2 + 11 * f) M) else some (0, M) := by
        rw [dn_X5_updateToNothing, e_Cl (ev_hasEntry5 hC hI hc hf), fEq_b2, fGt, hk.2.1, e_Eq ⟨hin.2.1, by omega⟩]
      by_cases g1 : gen s (4 * c + f) = -1
      · refine same 0 (by omega) ⟨M, by rw [o5, if_neg g2, if_neg al, u5, if_neg (fun q => q g1), fCl_some], fun _ _ _ => rfl⟩ (fun N hN => ⟨N, by rw [o6 N hN, if_pos g1, if_neg al], fun _ _ _ _ => rfl⟩)
      · have g0 : 0 ≤ gen s (4 * c + f) := by omega
        by_cases md : gou s (4 * c + f) = 0 ∧ gmi s (4 * c + f) ≠ stx (gF s f) (gen s (4 * c + f)).toNat
        · refine same 3 (by omega) ⟨M, ?_, fun _ _ _ => rfl⟩ (fun N hN => ⟨N, ?_, fun _ _ _ _ => rfl⟩)
          · rw [o5, if_neg g2, if_neg al, u5, if_pos g1, if_pos md.1, e_Cl (ev_isModified5 hC hI hc hf g0), fEq_b2, if_pos md.2, fCl_some]
          · rw [o6 N hN, if_neg g1, if_neg g2, if_neg al, e_Cl (ev_modified6 hN hI hc hf g0), fEq_b2, if_pos md]
        · refine ⟨1, -1, 0, gmi s (4 * c + f), _, ?_, cp_drop hC (by omega), fun N hN => ⟨_, ?_, cp_drop6 hN (by omega)⟩, by omega, fun t ht => ⟨Or.inl rfl, by omega, i3, ht⟩⟩
          · rw [o5, if_neg g2, if_neg al, u5, if_pos g1]
            by_cases q0 : gou s (4 * c + f) = 0
            · rw [if_pos q0, e_Cl (ev_isModified5 hC hI hc hf g0), fEq_b2, if_neg (fun q => md ⟨q0, q⟩), dn_X5_updateToNothing_J26, e_Cl (ev_drop M _), fCl_some]
            · rw [if_neg q0, dn_X5_updateToNothing_J26, e_Cl (ev_drop M _), fCl_some]
          · rw [o6 N hN, if_neg g1, if_neg g2, if_neg al, e_Cl (ev_modified6 hN hI hc hf g0), fEq_b2, if_neg md, dn_X6_updated_J79, e_Eqf ⟨by omega, by omega⟩ (by omega), e_Wr (4 * c + f) (by omega) (by omega), e_Wz (4 * c + f) (by omega) (by omega) (by omega)]
/-- the tag that an update goes by -/
def wish (s : GS) (k : Nat) (a : Int) : Int := if a = -1 then gsk s k else if a = 5 then -1 else a
theorem gd_update (hC : RelC s M) (hM : RelM s M) (hI : Inv s) {a1 a2 a3 : Int} (h1 : InI a1) (h2 : InI a2) (h3 : InI a3) : Gd InI (dn_X5_update a1 a2 a3) (dn_X6_update a1 a2 a3) M := by
  rcases pair_cases a1 a2 with h | ⟨c, f, rfl, rfl, hc, hf⟩
  · exact Gd.same hC hM hI (v := -1) (by rw [dn_X5_update]; exact open5_no h1 h2 h M _ _) (by rw [dn_X6_update]; exact open6_no h1 h2 h M _ _) (by omega)
  · have hA := hI.1 f hf
    have h5 := hA.1
    have hin := hI.en_in hc hf
    obtain ⟨i1, i2, i3, i4⟩ := hI.2.2 c f hc hf
    have hk := hC.2.2 (4 * c + f) (by omega)
    have s5 : dn_X5_isStickyWish a3 M = some (b2 (a3 = -1 ∨ a3 = 5 ∨ ((0 ≤ a3 ∧ a3 < 5) ∧ gso s a3.toNat ≠ 0)), M) := by
      rw [dn_X5_isStickyWish, e_Eq ⟨h3, by omega⟩, e_Eq ⟨h3, by omega⟩, e_Cl (ev_isTag h3 M), fEq_b2]
      simp only [dn_X5_isStickyWish_J26]
      rw [fRz_0, fRz_1]
      by_cases c1 : a3 = -1
      · rw [if_pos c1, b2_t (Or.inl c1)]
      · rw [if_neg c1]
        by_cases c2 : a3 = 5
        · rw [if_pos c2, b2_t (Or.inr (Or.inl c2))]
        · rw [if_neg c2]
          by_cases c3 : 0 ≤ a3 ∧ a3 < 5
          · have hs := hI.2.1 a3.toNat (by omega)
            rw [if_pos c3, e_Rd a3.toNat (by omega) (by omega), hC.2.1 _ (by omega), e_Eq ⟨by omega, by omega⟩]
            by_cases c4 : gso s a3.toNat = 0
            · rw [if_pos c4, b2_f (by rintro (q | q | q); exact c1 q; exact c2 q; exact q.2 c4)]
            · rw [if_neg c4, b2_t (Or.inr (Or.inr ⟨c3, c4⟩))]
          · rw [if_neg c3, b2_f (by rintro (q | q | q); exact c1 q; exact c2 q; exact c3 q.1)]
    by_cases w : a3 = -1 ∨ a3 = 5 ∨ ((0 ≤ a3 ∧ a3 < 5) ∧ gso s a3.toNat ≠ 0)
    · have hw : wish s (4 * c + f) a3 = -1 ∨ (0 ≤ wish s (4 * c + f) a3 ∧ wish s (4 * c + f) a3 < 5 ∧ gso s (wish s (4 * c + f) a3).toNat ≠ 0) := by
        unfold wish
        split
        · exact i4
        · split
          · exact Or.inl rfl
          · rcases w with q | q | q
            · contradiction
            · contradiction
            · exact Or.inr ⟨q.1.1, q.1.2, q.2⟩
      have hw' : wish s (4 * c + f) a3 = -1 ∨ (0 ≤ wish s (4 * c + f) a3 ∧ wish s (4 * c + f) a3 < 5) := by omega
      have hsel := selA_in hA hw'
      obtain ⟨v, e, o, m, M1, u1, u2, u3, u4, u5⟩ := ev_upd hC hI hc hf hsel
      have p5 : dn_X5_update (c : Int) (f : Int) a3 M = if v = 3 then some (v, M1) else if v = -7 then some (v, M1) else some (v, fup M1 (47 + (4 * c + f)) 3 (wish s (4 * c + f) a3)) := by
        rw [dn_X5_update]
        refine (open5 hc hf M _ _).trans ?_
        rw [e_Cl s5, fEq_b2, if_pos w]
        refine (copy5 hc hf M _).trans ?_
        have w5 : dn_X5_wishedTag (47 + (4 * c + f)) a3 M = some (wish s (4 * c + f) a3, M) := by
          rw [dn_X5_wishedTag, e_Eq ⟨h3, by omega⟩, e_Eq ⟨h3, by omega⟩, fGt, hk.2.2.2]
          unfold wish
          split
          · rfl
          · split <;> rfl
        rw [e_Ix f rfl (by omega), e_Cl w5, e_Cl (ev_selectedBy5 (hC.1 f hf) hA (hC.sorts hI) hw'), e_Cl u1, e_Eq ⟨u4, by omega⟩, e_Eq ⟨u4, by omega⟩, fPt]
      have p6 : ∀ N, RelM s N → ∃ N1, cpM s (4 * c + f) N N1 e o m ∧ dn_X6_update (c : Int) (f : Int) a3 N = if v = 3 then some (v, fup N1 131 (4 * c + f) (gsk s (4 * c + f))) else if v = -7 then some (v, fup N1 131 (4 * c + f) (gsk s (4 * c + f))) else some (v, fup N1 131 (4 * c + f) (wish s (4 * c + f) a3)) := by
        intro N hN
        obtain ⟨N1, n1, n2⟩ := u3 N hN
        refine ⟨N1, n2, ?_⟩
        have j69 : dn_X6_update_J69 (c : Int) (f : Int) a3 ((4 * (c : Int)) + (f : Int)) (wish s (4 * c + f) a3) N = if v = 3 then some (v, fup N1 131 (4 * c + f) (gsk s (4 * c + f))) else if v = -7 then some (v, fup N1 131 (4 * c + f) (gsk s (4 * c + f))) else some (v, fup N1 131 (4 * c + f) (wish s (4 * c + f) a3)) := by
          rw [dn_X6_update_J69, e_Cl (ev_selectedBy6 hf (hN.1 f hf) hA (hN.sorts hI) hw'), e_Cl n1, e_Eq ⟨u4, by omega⟩, e_Eq ⟨u4, by omega⟩, dn_X6_update_J106, e_Rd (4 * c + f) (by omega) (by omega), n2.1.2.2.2, dn_X6_update_J118, e_Wr (4 * c + f) (by omega) (by omega), dn_X6_update_J118, e_Wr (4 * c + f) (by omega) (by omega)]
        have j37 : dn_X6_update_J37 (c : Int) (f : Int) a3 N = dn_X6_update_J69 (c : Int) (f : Int) a3 ((4 * (c : Int)) + (f : Int)) (wish s (4 * c + f) a3) N := by
          rw [dn_X6_update_J37, e_Eq ⟨h3, by omega⟩, e_Eq ⟨h3, by omega⟩, e_Rd (4 * c + f) (by omega) (by omega), (hN.2.2 _ (by omega)).2.2.2]
          unfold wish
          split
          · rfl
          · split <;> rfl
        rw [dn_X6_update]
        refine (open6 hc hf N _ _).trans ?_
        rw [e_Ltf ⟨h3, by omega⟩ (by omega), e_Ltf ⟨by omega, h3⟩ (by omega), e_Cl (ev_below6 h3 (by omega) N), fEq_b2, ← j69, ← j37]
        by_cases c3 : 0 ≤ a3 ∧ a3 < 5
        · have hs := hI.2.1 a3.toNat (by omega)
          rw [if_pos c3, e_Rd a3.toNat (by omega) (by omega), hN.2.1 _ (by omega), e_Eqf ⟨by omega, by omega⟩ (by rcases w with q | q | q; omega; omega; exact q.2)]
        · rw [if_neg c3]
      have fin : ∀ (wv : Int) (M2 : fMem), (wv = -1 ∨ (0 ≤ wv ∧ wv < 5 ∧ gso s wv.toNat ≠ 0)) → M2 (47 + (4 * c + f)) 3 = wv → (∀ j, j ≠ 3 → M2 (47 + (4 * c + f)) j = M1 (47 + (4 * c + f)) j) → (∀ q j, q ≠ 47 + (4 * c + f) → M2 q j = M1 q j) → dn_X5_update (c : Int) (f : Int) a3 M = some (v, M2) → (∀ N N1, RelM s N → cpM s (4 * c + f) N N1 e o m → dn_X6_update (c : Int) (f : Int) a3 N = (if v = 3 then some (v, fup N1 131 (4 * c + f) (gsk s (4 * c + f))) else if v = -7 then some (v, fup N1 131 (4 * c + f) (gsk s (4 * c + f))) else some (v, fup N1 131 (4 * c + f) (wish s (4 * c + f) a3))) → dn_X6_update (c : Int) (f : Int) a3 N = some (v, fup N1 131 (4 * c + f) wv)) → Gd InI (dn_X5_update (c : Int) (f : Int) a3) (dn_X6_update (c : Int) (f : Int) a3) M := by
        intro wv M2 hwv k1 k2 k3 d5 d6
        have hM2 : RelM s M2 := hM.fr (fun q k q1 q2 => by rw [k3 q k (by omega)]; exact u2.2 q k (by omega) (by omega))
        obtain ⟨N1, n1, n2⟩ := p6 M2 hM2
        refine ⟨v, M2, _, wC s (4 * c + f) e o m wv, d5, d6 M2 N1 hM2 n1 n2, u4, ?_, ?_, hI.wC hc hf (u5 wv hwv)⟩
        · have hC2 : RelC (wC s (4 * c + f) e o m wv) M2 := relC_wC' hC (by omega) ⟨by rw [k2 _ (by omega)]; exact u2.1.1, by rw [k2 _ (by omega)]; exact u2.1.2.1, by rw [k2 _ (by omega)]; exact u2.1.2.2.1, k1⟩ (fun q j q1 q2 => by rw [k3 q j q2]; exact u2.2 q j q2 (by omega))
          exact hC2.fr (fun q k hq => by rw [fup_ne (by omega)]; exact n1.2 q k (by omega) (by omega) (by omega))
        · exact relM_wC' hM2 ⟨by rw [fup_ne (by omega)]; exact n1.1.1, by rw [fup_ne (by omega)]; exact n1.1.2.1, by rw [fup_ne (by omega)]; exact n1.1.2.2.1, by rw [fup_self]⟩ (fun q j q1 q2 q3 => by rw [fup_ne (by omega)]; exact n1.2 q j q3 (by omega) (by omega))
      by_cases v3 : v = 3
      · exact fin (gsk s (4 * c + f)) M1 i4 u2.1.2.2.2 (fun _ _ => rfl) (fun _ _ _ => rfl) (by rw [p5, if_pos v3]) (fun N N1 _ _ e => by rw [e, if_pos v3])
      · by_cases v7 : v = -7
        · exact fin (gsk s (4 * c + f)) M1 i4 u2.1.2.2.2 (fun _ _ => rfl) (fun _ _ _ => rfl) (by rw [p5, if_neg v3, if_pos v7]) (fun N N1 _ _ e => by rw [e, if_neg v3, if_pos v7])
        · exact fin (wish s (4 * c + f) a3) _ hw (fup_self _ _ _ _) (fun j hj => fup_ne (by omega)) (fun q j hq => fup_ne (by omega)) (by rw [p5, if_neg v3, if_neg v7]) (fun N N1 _ _ e => by rw [e, if_neg v3, if_neg v7])
    · refine Gd.same hC hM hI (v := -1) ?_ ?_ (by omega)
      · rw [dn_X5_update]
        refine (open5 hc hf M _ _).trans ?_
        rw [e_Cl s5, fEq_b2, if_neg w]
      · rw [dn_X6_update]
        refine (open6 hc hf M _ _).trans ?_
        rw [e_Lt ⟨h3, by omega⟩, e_Lt ⟨by omega, h3⟩]
        by_cases c1 : a3 < -1
        · rw [if_pos c1]
        · rw [if_neg c1]
          by_cases c2 : 5 < a3
          · rw [if_pos c2]
          · have c3 : 0 ≤ a3 ∧ a3 < 5 := by omega
            have hs := hI.2.1 a3.toNat (by omega)
            rw [if_neg c2, e_Cl (ev_below6 h3 (by omega) M), fEq_b2, if_pos c3, e_Rd a3.toNat (by omega) (by omega), hM.2.1 _ (by omega), e_Eqt ⟨by omega, by omega⟩ (by
              by_cases q : gso s a3.toNat = 0
              · exact q
              · exact absurd (Or.inr (Or.inr ⟨c3, q⟩)) w)]
end PO5
