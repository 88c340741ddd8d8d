/-! bring -/
section PO4
variable {s : GS} {M : fMem} {A : FS} {so : Nat → Int} {P f : Nat} {t a1 : Int}
theorem br5_117 (hR : RC P A M) {v : Nat} (hv : sv A = (v : Int)) (hvb : v ≤ sb A) (hn : sn A < 24) (hsb : sb A ≤ 5) (a5 : Int) : ∃ M', dn_X5_bring_J117 P a1 t a5 M = some ((sn A : Int), M') ∧ RC P (fApp A v t 0) M' ∧ frP P M M' := by
  obtain ⟨M', e1, e2, e3⟩ := ev_append (t := t) (d := 0) hR hvb hn hsb (Or.inl rfl)
  refine ⟨M', ?_, e2, e3⟩
  rw [dn_X5_bring_J117, fGt, hR.1.2.2.1, hv, e_Cl e1]
theorem br5_102_0 (hR : RC P A M) {v : Nat} (hv : sv A = (v : Int)) (hvb : v ≤ sb A) (hn : sn A < 24) (hsb : sb A ≤ 5) : ∃ M', dn_X5_bring_J102 P a1 t 0 M = some ((sn A : Int), M') ∧ RC P (fApp A v t 0) M' ∧ frP P M M' := by
  rw [dn_X5_bring_J102, e_Eqt ⟨by omega, by omega⟩ rfl]
  exact br5_117 hR hv hvb hn hsb 0
theorem br5_102_1 (hR : RC P A M) {v : Nat} (hv : sv A = (v : Int)) (hvb : v ≤ sb A) (hn : sn A < 24) (hsb : sb A ≤ 5) : ∃ M', dn_X5_bring_J102 P a1 t 1 M = some ((sn A : Int), M') ∧ RC P (fApp (fStd A (v : Int)) v t 0) M' ∧ frP P M M' := by
  rw [dn_X5_bring_J102, e_Eqf ⟨by omega, by omega⟩ (by omega), fGt, hR.1.2.2.1, hv, fPt]
  obtain ⟨M', e1, e2, e3⟩ := br5_117 (a1 := a1) (t := t) (hR.std (v : Int)) (v := v) hv hvb hn hsb 1
  exact ⟨M', e1, e2, frP.trans (fun q k hq => fup_ne (by omega)) e3⟩
theorem br5_88v (hR : RC P A M) (hI : AI A so) (hv : sv A = -1) (hb : sb A < 5) (a5 : Int) : ∃ N, dn_X5_bring_J88 P a1 t a5 M = dn_X5_bring_J102 P a1 t a5 N ∧ RC P (fVen (fOpn A 0 1) ((sb A + 1 : Nat) : Int)) N ∧ frP P M N := by
  obtain ⟨N, e1, e2, e3⟩ := ev_openVendor hR hI hb
  refine ⟨N, ?_, e2, e3⟩
  rw [dn_X5_bring_J88, fGt, hR.1.2.2.1, e_Eqt ⟨by omega, by omega⟩ hv, e_Cl e1]
theorem br5_88 (hR : RC P A M) (hI : AI A so) (hv : sv A ≠ -1) (a5 : Int) : dn_X5_bring_J88 P a1 t a5 M = dn_X5_bring_J102 P a1 t a5 M := by
  have h5 := hI.1
  have h8 := hI.2.2.2.2.2.2.2.1
  rw [dn_X5_bring_J88, fGt, hR.1.2.2.1, e_Eqf ⟨by omega, by omega⟩ hv]
theorem br6_132 (hf : f < 4) (hR : RM f A M) (hW : AW A) {v : Nat} (hv : sv A = (v : Int)) (hvb : v ≤ sb A) (hn : sn A < 24) (a5 : Int) : ∃ M', dn_X6_bring_J132 (f : Int) t a5 M = some ((sn A : Int), M') ∧ RM f (fApp A v t 0) M' ∧ frM f M M' := by
  obtain ⟨M', e1, e2, e3⟩ := ev_revise6w (t := t) (d := 0) hf hR hW hvb hn (Or.inl rfl)
  refine ⟨M', ?_, e2, e3⟩
  rw [dn_X6_bring_J132, e_Rd f rfl hf, hR.1.2.2.1, hv, e_Cl e1]
theorem br6_115_0 (hf : f < 4) (hR : RM f A M) (hW : AW A) {v : Nat} (hv : sv A = (v : Int)) (hvb : v ≤ sb A) (hn : sn A < 24) : ∃ M', dn_X6_bring_J115 (f : Int) t 0 M = some ((sn A : Int), M') ∧ RM f (fApp A v t 0) M' ∧ frM f M M' := by
  rw [dn_X6_bring_J115, e_Eqt ⟨by omega, by omega⟩ rfl]
  exact br6_132 hf hR hW hv hvb hn 0
theorem br6_115_1 (hf : f < 4) (hR : RM f A M) (hW : AW A) {v : Nat} (hv : sv A = (v : Int)) (hvb : v ≤ sb A) (hn : sn A < 24) : ∃ M', dn_X6_bring_J115 (f : Int) t 1 M = some ((sn A : Int), M') ∧ RM f (fApp (fStd A (v : Int)) v t 0) M' ∧ frM f M M' := by
  rw [dn_X6_bring_J115, e_Eqf ⟨by omega, by omega⟩ (by omega), e_Rd f rfl hf, hR.1.2.2.1, hv, e_Wr f rfl hf]
  obtain ⟨M', e1, e2, e3⟩ := br6_132 (t := t) hf (hR.std (v : Int)) hW (v := v) hv hvb hn 1
  exact ⟨M', e1, e2, (frM.one (by unfold inF; omega)).trans e3⟩
theorem br6_89v (hf : f < 4) (hR : RM f A M) (hI : AI A so) (hv : sv A = -1) (hb : sb A < 5) (hn : 0 < sn A) (a5 : Int) : ∃ N, dn_X6_bring_J89 (f : Int) t a5 M = dn_X6_bring_J115 (f : Int) t a5 N ∧ RM f (fVen (fOpn A 0 1) ((sb A + 1 : Nat) : Int)) N ∧ frM f M N := by
  obtain ⟨N, e1, e2, e3⟩ := ev_branchAt6 (p := 0) (m := 1) hf hR hb
  refine ⟨fup N 124 f ((sb A + 1 : Nat) : Int), ?_, e2.ven _, e3.trans (frM.one (by unfold inF; omega))⟩
  rw [dn_X6_bring_J89, e_Rd f rfl hf, hR.1.2.2.1, e_Lef ⟨by omega, by omega⟩ (by omega), e_Cl (ev_firstOfTrunk6 hf hR hI hn), e_Cl e1, e_Wr f rfl hf]
theorem br6_89 (hf : f < 4) (hR : RM f A M) (hI : AI A so) (hv : sv A ≠ -1) (a5 : Int) : dn_X6_bring_J89 (f : Int) t a5 M = dn_X6_bring_J115 (f : Int) t a5 M := by
  have h5 := hI.1
  have h8 := hI.2.2.2.2.2.2.2.1
  rw [dn_X6_bring_J89, e_Rd f rfl hf, hR.1.2.2.1, e_Let ⟨by omega, by omega⟩ (by omega)]
theorem RM.ofC {M M1 : fMem} (h : RM f A M) {Q : Nat} (hQ : Q + 10 < 60) (hfr : frP Q M M1) : RM f A M1 := h.fr (fun q k hq => hfr.up hQ (by unfold inF at hq; omega) k)
theorem gd_bring (hC : RelC s M) (hM : RelM s M) (hI : Inv s) {a t : Int} (h1 : InI a) (h2 : InL t) : Gd InI (dn_X5_bring a t) (dn_X6_bring a t) M := by
  rcases file_cases a with h | ⟨f, rfl, hf⟩
  · exact Gd.same hC hM hI (v := -1) (by rw [dn_X5_bring]; exact fopen5_no h1 h M _ _) (by rw [dn_X6_bring]; exact fopen6_no h1 h M _ _) (by omega)
  · by_cases ht : (0 ≤ t ∧ okR 12 t.toNat = true) ∧ ¬ mkR 12 t.toNat = true
    · have hA := hI.1 f hf
      have hR := hC.1 f hf
      have h5 := hA.1
      have h8 := hA.2.2.2.2.2.2.2.1
      have hto : tOk t := ⟨ht.1.1, by omega, ht.1.2⟩
      have o5 : dn_X5_bring (f : Int) t M = if 0 < sn (gF s f) then dn_X5_bring_J37 (2 + 11 * f) (f : Int) t 0 M else dn_X5_bring_J37 (2 + 11 * f) (f : Int) t 1 M := by
        rw [dn_X5_bring]
        refine (fopen5 hf M _ _).trans ?_
        rw [e_Cl (ev_isClean h2 M), fEq_b2, if_pos ht, e_Ix f rfl (by omega), e_Cl (ev_isThere hR hA), fEq_b2]
      have o6 : ∀ N, RM f (gF s f) N → dn_X6_bring (f : Int) t N = if 0 < sn (gF s f) then dn_X6_bring_J38 (f : Int) t 0 N else dn_X6_bring_J38 (f : Int) t 1 N := by
        intro N hN
        rw [dn_X6_bring]
        refine (fopen6 hf N _ _).trans ?_
        rw [e_Cl (ev_noText h2 N), fEq_b2, if_neg (fun q => q ht.1), e_Cl (ev_hasMarks6 h2 ht.1 N), fEq_b2, if_neg ht.2, e_Rd f rfl (by omega), hN.1.1, e_Eq ⟨by omega, by omega⟩]
        by_cases h0 : 0 < sn (gF s f)
        · rw [if_pos h0, if_neg (by omega)]
        · rw [if_neg h0, if_pos (by omega)]
      by_cases h0 : 0 < sn (gF s f)
      · rw [if_pos h0] at o5
        have o6 := fun N hN => (o6 N hN).trans (if_pos h0)
        by_cases hv : sv (gF s f) = -1
        · -- no vendor's branch yet
          have p5 : dn_X5_bring (f : Int) t M = if (sn (gF s f) : Int) + 1 ≤ 24 ∧ (sb (gF s f) : Int) + 1 + 1 ≤ 6 then dn_X5_bring_J88 (2 + 11 * f) (f : Int) t 0 M else some (-7, M) := by
            rw [o5, dn_X5_bring_J37, e_Eqt ⟨by omega, by omega⟩ rfl, dn_X5_bring_J51, fGt, hR.1.2.2.1, e_Eqt ⟨by omega, by omega⟩ hv, dn_X5_bring_J65, e_Cl (ev_hasRoom hR hA (by omega) (by omega)), fEq_b2, e_Eqt ⟨by omega, by omega⟩ rfl]
          have p6 : ∀ N, RM f (gF s f) N → dn_X6_bring (f : Int) t N = if (sn (gF s f) : Int) + 1 ≤ 24 ∧ (sb (gF s f) : Int) + 1 + 1 ≤ 6 then dn_X6_bring_J89 (f : Int) t 0 N else some (-7, N) := by
            intro N hN
            rw [o6 N hN, dn_X6_bring_J38, e_Rd f rfl hf, hN.1.1, e_Lt ⟨by omega, by omega⟩, e_Rd f rfl hf, hN.1.2.2.1, e_Lef ⟨by omega, by omega⟩ (by omega), e_Rd f rfl hf, hN.1.2.1, e_Eq ⟨by omega, by omega⟩, dn_X6_bring_J75, e_Eqt ⟨by omega, by omega⟩ rfl]
            by_cases c1 : (24 : Int) < (sn (gF s f) : Int) + 1
            · rw [if_pos c1, if_neg (by omega)]
            · rw [if_neg c1]
              by_cases c2 : (sb (gF s f) : Int) = 5
              · rw [if_pos c2, if_neg (by omega)]
              · rw [if_neg c2, if_pos (by omega)]
          by_cases hr : (sn (gF s f) : Int) + 1 ≤ 24 ∧ (sb (gF s f) : Int) + 1 + 1 ≤ 6
          · rw [if_pos hr] at p5
            obtain ⟨N1, e1, e2, e3⟩ := br5_88v (a1 := (f : Int)) (t := t) hR hA hv (by omega) 0
            obtain ⟨N2, e4, e5, e6⟩ := br5_102_0 (a1 := (f : Int)) (t := t) e2 (v := sb (gF s f) + 1) rfl (Nat.le_refl _) (by show sn (gF s f) < 24; omega) (by show sb (gF s f) + 1 ≤ 5; omega)
            have hN2 : RM f (gF s f) N2 := (hM.1 f hf).ofC (by omega) (e3.trans e6)
            obtain ⟨N3, g1, g2, g3⟩ := br6_89v (t := t) hf hN2 hA hv (by omega) h0 0
            have hA2 := hA.ven (by omega) hv h0
            obtain ⟨N4, g4, g5, g6⟩ := br6_115_0 (t := t) hf g2 hA2.aw (v := sb (gF s f) + 1) rfl (Nat.le_refl _) (by show sn (gF s f) < 24; omega)
            refine Gd.file hC hM hI hf (p5.trans (e1.trans e4)) (((p6 N2 hN2).trans (if_pos hr)).trans (g1.trans g4)) ?_ e5 (e3.trans e6) g5 (g3.trans g6) (hA2.app1 ?_ ?_ hto (Or.inl rfl) ?_) ?_
            · show InI ((sn (gF s f) : Nat) : Int); omega
            · show sn (gF s f) < 24; omega
            · exact Nat.le_refl _
            · intro q; exact absurd (show sn (gF s f) = 0 from q) (by omega)
            · show sn (gF s f) ≤ sn (gF s f) + 1; omega
          · rw [if_neg hr] at p5
            exact Gd.same hC hM hI p5 ((p6 M (hM.1 f hf)).trans (if_neg hr)) (by omega)
        · -- the vendor's branch is there
          obtain ⟨v, hvv⟩ := Int.eq_ofNat_of_zero_le (show 0 ≤ sv (gF s f) by omega)
          have p5 : dn_X5_bring (f : Int) t M = if (sn (gF s f) : Int) + 1 ≤ 24 ∧ (sb (gF s f) : Int) + 1 + 0 ≤ 6 then dn_X5_bring_J102 (2 + 11 * f) (f : Int) t 0 M else some (-7, M) := by
            rw [o5, dn_X5_bring_J37, e_Eqt ⟨by omega, by omega⟩ rfl, dn_X5_bring_J51, fGt, hR.1.2.2.1, e_Eqf ⟨by omega, by omega⟩ hv, dn_X5_bring_J65, e_Cl (ev_hasRoom hR hA (by omega) (by omega)), fEq_b2, e_Eqt ⟨by omega, by omega⟩ rfl, br5_88 hR hA hv]
          have p6 : ∀ N, RM f (gF s f) N → dn_X6_bring (f : Int) t N = if (sn (gF s f) : Int) + 1 ≤ 24 ∧ (sb (gF s f) : Int) + 1 + 0 ≤ 6 then dn_X6_bring_J115 (f : Int) t 0 N else some (-7, N) := by
            intro N hN
            rw [o6 N hN, dn_X6_bring_J38, e_Rd f rfl hf, hN.1.1, e_Lt ⟨by omega, by omega⟩, e_Rd f rfl hf, hN.1.2.2.1, e_Let ⟨by omega, by omega⟩ (by omega), dn_X6_bring_J75, e_Eqt ⟨by omega, by omega⟩ rfl, br6_89 hf hN hA hv]
            by_cases c1 : (24 : Int) < (sn (gF s f) : Int) + 1
            · rw [if_pos c1, if_neg (by omega)]
            · rw [if_neg c1, if_pos (by omega)]
          by_cases hr : (sn (gF s f) : Int) + 1 ≤ 24 ∧ (sb (gF s f) : Int) + 1 + 0 ≤ 6
          · rw [if_pos hr] at p5
            obtain ⟨N2, e4, e5, e6⟩ := br5_102_0 (a1 := (f : Int)) (t := t) hR hvv (by omega) (by omega) (by omega)
            have hN2 : RM f (gF s f) N2 := (hM.1 f hf).ofC (by omega) e6
            obtain ⟨N4, g4, g5, g6⟩ := br6_115_0 (t := t) hf hN2 hA.aw hvv (by omega) (by omega)
            refine Gd.file hC hM hI hf (p5.trans e4) (((p6 N2 hN2).trans (if_pos hr)).trans g4) ?_ e5 e6 g5 g6 (hA.app1 (by omega) (by omega) hto (Or.inl rfl) (by omega)) ?_
            · omega
            · show sn (gF s f) ≤ sn (gF s f) + 1; omega
          · rw [if_neg hr] at p5
            exact Gd.same hC hM hI p5 ((p6 M (hM.1 f hf)).trans (if_neg hr)) (by omega)
      · -- the first text of the file
        rw [if_neg h0] at o5
        have o6 := fun N hN => (o6 N hN).trans (if_neg h0)
        have hsb : sb (gF s f) = 0 := by
          by_cases hz : sb (gF s f) = 0
          · exact hz
          · have := hA.2.2.2.2.2.1 1 (by omega) (by omega)
            omega
        have hv : sv (gF s f) = -1 := by omega
        obtain ⟨N0, d1, d2, d3⟩ := ev_append (b := 0) (t := t) (d := 0) hR (by omega) (by omega) (by omega) (Or.inl rfl)
        have hA1 : AI (fApp (gF s f) 0 t 0) (gso s) := hA.app1 (by omega) (by omega) hto (Or.inl rfl) (fun _ => rfl)
        have p5 : dn_X5_bring (f : Int) t M = dn_X5_bring_J88 (2 + 11 * f) (f : Int) t 1 N0 := by
          rw [o5, dn_X5_bring_J37, e_Eqf ⟨by omega, by omega⟩ (by omega), dn_X5_bring_J51, fGt, hR.1.2.2.1, e_Eqt ⟨by omega, by omega⟩ hv, dn_X5_bring_J65, e_Cl (ev_hasRoom hR hA (by omega) (by omega)), fEq_b2, if_pos (by omega), e_Eqf ⟨by omega, by omega⟩ (by omega)]
          exact e_Cl d1
        obtain ⟨N1, e1, e2, e3⟩ := br5_88v (a1 := (f : Int)) (t := t) d2 hA1 hv (by show sb (gF s f) < 5; omega) 1
        obtain ⟨N2, e4, e5, e6⟩ := br5_102_1 (a1 := (f : Int)) (t := t) e2 (v := sb (gF s f) + 1) rfl (Nat.le_refl _) (by show sn (gF s f) + 1 < 24; omega) (by show sb (gF s f) + 1 ≤ 5; omega)
        have hfr := d3.trans (e3.trans e6)
        have hN2 : RM f (gF s f) N2 := (hM.1 f hf).ofC (by omega) hfr
        obtain ⟨N3, g1, g2, g3⟩ := ev_revise6 (b := 0) (t := t) (d := 0) hf hN2 hA (by omega) (by omega) (Or.inl rfl)
        have p6 : dn_X6_bring (f : Int) t N2 = dn_X6_bring_J89 (f : Int) t 1 N3 := by
          rw [o6 N2 hN2, dn_X6_bring_J38, e_Rd f rfl hf, hN2.1.1, e_Ltf ⟨by omega, by omega⟩ (by omega), e_Rd f rfl hf, hN2.1.2.2.1, e_Lef ⟨by omega, by omega⟩ (by omega), e_Rd f rfl hf, hN2.1.2.1, e_Eqf ⟨by omega, by omega⟩ (by omega), dn_X6_bring_J75, e_Eqf ⟨by omega, by omega⟩ (by omega)]
          exact e_Cl g1
        obtain ⟨N4, i1, i2, i3⟩ := br6_89v (t := t) hf g2 hA1 hv (by show sb (gF s f) < 5; omega) (Nat.succ_pos _) 1
        have hA2 := hA1.ven (by show sb (gF s f) < 5; omega) hv (Nat.succ_pos _)
        obtain ⟨N5, i4, i5, i6⟩ := br6_115_1 (t := t) hf i2 hA2.aw (v := sb (gF s f) + 1) rfl (Nat.le_refl _) (by show sn (gF s f) + 1 < 24; omega)
        refine Gd.file hC hM hI hf (p5.trans (e1.trans e4)) (p6.trans (i1.trans i4)) ?_ e5 hfr i5 (g3.trans (i3.trans i6)) (hA2.app ?_ ?_ hto (Or.inl rfl) ?_ (Or.inr rfl)) ?_
        · show InI ((sn (gF s f) + 1 : Nat) : Int); omega
        · show sn (gF s f) + 1 < 24; omega
        · exact Nat.le_refl _
        · intro q; exact absurd (show sn (gF s f) + 1 = 0 from q) (by omega)
        · show sn (gF s f) ≤ sn (gF s f) + 1 + 1; omega
    · refine Gd.same hC hM hI (v := -1) ?_ ?_ (by omega)
      · rw [dn_X5_bring]
        refine (fopen5 hf M _ _).trans ?_
        rw [e_Cl (ev_isClean h2 M), fEq_b2, if_neg ht]
      · rw [dn_X6_bring]
        refine (fopen6 hf M _ _).trans ?_
        rw [e_Cl (ev_noText h2 M), fEq_b2]
        by_cases c2 : 0 ≤ t ∧ okR 12 t.toNat = true
        · have c3 : mkR 12 t.toNat = true := by
            by_cases c3 : mkR 12 t.toNat = true
            · exact c3
            · exact absurd ⟨c2, c3⟩ ht
          rw [if_neg (fun q => q c2), e_Cl (ev_hasMarks6 h2 c2 M), fEq_b2, if_pos c3]
        · rw [if_pos c2]
end PO4
