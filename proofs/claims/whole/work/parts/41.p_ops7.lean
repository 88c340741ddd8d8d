/-! commit, where nothing bars it -/
section PO7
variable {s : GS} {M : fMem} {so : Nat → Int}
/-- the file with the tag's branch opened where it wasn't there -/
def nmA (B : FS) (t : Nat) : FS := if snm B t = -1 then fNam (fOpn B (lst (sho B) 0 (sn B)) (newMg B (lst (sho B) 0 (sn B)))) t ((sb B + 1 : Nat) : Int) else B
def cmA (A : FS) (t : Int) : FS := if t = -1 then fStd A 0 else nmA (if sn A = 0 then fApp A 0 0 1 else A) t.toNat
def cmB (A : FS) (t : Int) : Int := if t = -1 then 0 else snm (cmA A t) t.toNat
theorem trunk_lst {B : FS} (hI : AI B so) (hn : 0 < sn B) : ∃ p : Nat, lst (sho B) 0 (sn B) = (p : Int) ∧ p < sn B := by
  rcases lst_in (sho B) 0 (sn B) with q | ⟨r, q, q1, -⟩
  · exact absurd (hI.2.2.2.2.2.2.2.2.2.2.1 hn) (lst_none q 0 hn)
  · exact ⟨r, q, q1⟩
theorem nmI {B : FS} (hI : AI B so) {t : Nat} (ht : t < 5) (h2 : so t = 2) (hn : 0 < sn B) (hr : snm B t = -1 → sb B < 5) : AI (nmA B t) so ∧ sn (nmA B t) = sn B ∧ stx (nmA B t) = stx B ∧ ∃ b : Nat, snm (nmA B t) t = (b : Int) ∧ b ≤ sb (nmA B t) := by
  unfold nmA
  by_cases h : snm B t = -1
  · obtain ⟨p, p1, p2⟩ := trunk_lst hI hn
    rw [if_pos h, p1]
    refine ⟨(hI.opn (hr h) p2).nam (Or.inr ⟨h2, by omega, Int.le_refl _⟩), rfl, rfl, sb B + 1, pup_s _ _ _, Nat.le_refl _⟩
  · rw [if_neg h]
    have := hI.2.2.2.2.2.2.2.2.2.1 t ht
    exact ⟨hI, rfl, rfl, (snm B t).toNat, by omega, by omega⟩
theorem ev_nm5 {P k : Nat} {B : FS} (hR : RC P B M) (hI : AI B so) {t : Nat} (ht : t < 5) (h2 : so t = 2) (hn : 0 < sn B) (hr : snm B t = -1 → sb B < 5) (hP : P + 10 < 47) (hk : M (47 + k) 3 = (t : Int)) : ∃ N, dn_X5_branchToCommitOn_J30 (47 + k) P M = some (snm (nmA B t) t, N) ∧ RC P (nmA B t) N ∧ frP P M N := by
  have hm := hI.2.2.2.2.2.2.2.2.2.1 t ht
  have h5 := hI.1
  rw [dn_X5_branchToCommitOn_J30, fGt, hk, e_Rd t rfl ht, hR.2.2.2.2.1 t ht, e_Eq ⟨by omega, by omega⟩]
  by_cases h : snm B t = -1
  · obtain ⟨p, p1, p2⟩ := trunk_lst hI hn
    have e1 : dn_X2_tip P 0 M = some ((p : Int), M) := by
      have := ev_tip (b := 0) hR (Nat.zero_le _) hI
      unfold tipOf at this
      rw [show ((0 : Nat) : Int) = 0 from rfl, p1, if_neg (by omega)] at this
      exact this
    obtain ⟨N, n1, n2, n3⟩ := ev_openBranch hR hI p2 (hr h)
    have hk2 : fup N (P + 10) t ((sb B + 1 : Nat) : Int) (47 + k) 3 = (t : Int) := by rw [fup_ne (by omega), n3 _ _ (by omega), hk]
    refine ⟨fup N (P + 10) t ((sb B + 1 : Nat) : Int), ?_, ?_, n3.trans (fun q j hq => fup_ne (by omega))⟩
    · rw [if_pos h, fGt, hk, e_Cl e1, e_Cl n1, e_Wr t rfl ht, dn_X5_branchToCommitOn_J61, fGt, hk2, e_Rd t rfl ht, fup_self]
      unfold nmA
      rw [if_pos h, p1]
      show _ = some (pup _ t _ t, _)
      rw [pup_s]
    · unfold nmA
      rw [if_pos h, p1]
      exact n2.nam t _
  · refine ⟨M, ?_, ?_, frP.rf _ _⟩
    · rw [if_neg h, dn_X5_branchToCommitOn_J61, fGt, hk, e_Rd t rfl ht, hR.2.2.2.2.1 t ht]
      unfold nmA
      rw [if_neg h]
    · unfold nmA
      rw [if_neg h]
      exact hR
theorem ev_nm6 {f : Nat} {B : FS} (hf : f < 4) (hR : RM f B M) (hI : AI B so) {t : Nat} (ht : t < 5) (h2 : so t = 2) (hn : 0 < sn B) (hr : snm B t = -1 → sb B < 5) (a1 a3 a4 : Int) : ∃ N, dn_X6_commit_J84 a1 (f : Int) a3 a4 (t : Int) M = dn_X6_commit_J149 a1 (f : Int) a3 a4 (t : Int) N ∧ RM f (nmA B t) N ∧ frM f M N := by
  have hm := hI.2.2.2.2.2.2.2.2.2.1 t ht
  have h5 := hI.1
  rw [dn_X6_commit_J84, e_Ltf ⟨by omega, by omega⟩ (by omega), e_Rd (5 * f + t) (by omega) (by omega), hR.2.2.2 t ht, e_Eq ⟨by omega, by omega⟩]
  have j137 : ∀ N, dn_X6_commit_J137 a1 (f : Int) a3 a4 (t : Int) N = dn_X6_commit_J149 a1 (f : Int) a3 a4 (t : Int) N := by
    intro N
    rw [dn_X6_commit_J137, e_Let ⟨by omega, by omega⟩ (by omega)]
  by_cases h : snm B t = -1
  · obtain ⟨p, p1, p2⟩ := trunk_lst hI hn
    obtain ⟨N, n1, n2, n3⟩ := ev_branchAt6 (p := (p : Int)) (m := newMg B (p : Int)) hf hR (hr h)
    refine ⟨fup N 127 (5 * f + t) ((sb B + 1 : Nat) : Int), ?_, ?_, n3.trans (frM.one (by unfold inF; omega))⟩
    · rw [if_pos h, e_Cl (ev_last6 hf hR hI (by omega)), p1, e_Cl (ev_freeMagic6 hf hR hI (show p < 24 by omega)), e_Cl n1, e_Wr (5 * f + t) (by omega) (by omega), j137]
    · unfold nmA
      rw [if_pos h, p1]
      exact n2.nam t _
  · refine ⟨M, by rw [if_neg h, j137], ?_, frM.rf _ _⟩
    unfold nmA
    rw [if_neg h]
    exact hR
/-- what a commit does to the file before the revision itself, on both sides -/
theorem cm_all {A : FS} (hI : AI A so) {t : Int} (ht : t = -1 ∨ (0 ≤ t ∧ t < 5 ∧ so t.toNat = 2)) (hb : bar90 A t = 0) :
    (AI (cmA A t) so ∧ sn (cmA A t) < 24 ∧ sn A ≤ sn (cmA A t) ∧ (∀ r, r < sn A → stx (cmA A t) r = stx A r) ∧ ∃ b : Nat, cmB A t = (b : Int) ∧ b ≤ sb (cmA A t) ∧ (sn (cmA A t) = 0 → b = 0)) ∧
    (∀ (P k : Nat) (M : fMem), RC P A M → P + 10 < 47 → M (47 + k) 3 = t → ∃ N, dn_X5_branchToCommitOn (47 + k) P M = some (cmB A t, N) ∧ RC P (cmA A t) N ∧ frP P M N) ∧
    (∀ (f : Nat) (M : fMem) (a1 a3 a4 : Int), f < 4 → RM f A M → ∃ N, fEq (sn A : Int) 0 (fWr M 125 4 (f : Int) 0 (fun M28 => fLt t 0 (dn_X6_commit_J84 a1 (f : Int) a3 a4 t M28) (fCl (dn_X6_revise (f : Int) 0 0 1 M28) (fun v29 M30 => dn_X6_commit_J84 a1 (f : Int) a3 a4 t M30)))) (dn_X6_commit_J84 a1 (f : Int) a3 a4 t M) = dn_X6_commit_J149 a1 (f : Int) a3 a4 t N ∧ RM f (cmA A t) N ∧ frM f M N) := by
  have h5 := hI.1
  have t0 : tOk 0 := ⟨by omega, by omega, rfl⟩
  by_cases h : t = -1
  · subst h
    unfold bar90 at hb
    rw [if_pos rfl] at hb
    have hroom : (sn A : Int) + 1 ≤ 24 := by
      by_cases q : (sn A : Int) + 1 ≤ 24 ∧ (sb A : Int) + 1 + 0 ≤ 6
      · exact q.1
      · rw [if_neg q] at hb; omega
    unfold cmB cmA
    rw [if_pos rfl, if_pos rfl]
    refine ⟨⟨hI.std0, by show sn A < 24; omega, Nat.le_refl _, fun _ _ => rfl, 0, rfl, Nat.zero_le _, fun _ => rfl⟩, fun P k M hR hP hk => ?_, fun f M a1 a3 a4 hf hR => ?_⟩
    · refine ⟨fup M P 12 0, ?_, hR.std 0, fun q j hq => fup_ne (by omega)⟩
      rw [dn_X5_branchToCommitOn, fGt, hk, e_Eqt ⟨by omega, by omega⟩ rfl, fPt]
    · have j84 : ∀ N, dn_X6_commit_J84 a1 (f : Int) a3 a4 (-1) N = dn_X6_commit_J149 a1 (f : Int) a3 a4 (-1) (fup N 125 f 0) := by
        intro N
        rw [dn_X6_commit_J84, e_Ltt ⟨by omega, by omega⟩ (by omega), dn_X6_commit_J137, e_Lef ⟨by omega, by omega⟩ (by omega), e_Wr f rfl hf]
      rw [e_Eq ⟨by omega, by omega⟩]
      by_cases h0 : (sn A : Int) = 0
      · refine ⟨fup (fup M 125 f 0) 125 f 0, ?_, (hR.std 0).std 0, (frM.one (by unfold inF; omega)).trans (frM.one (by unfold inF; omega))⟩
        rw [if_pos h0, e_Wr f rfl hf, e_Ltt ⟨by omega, by omega⟩ (by omega), j84]
      · refine ⟨fup M 125 f 0, ?_, hR.std 0, frM.one (by unfold inF; omega)⟩
        rw [if_neg h0, j84]
  · obtain ⟨x, rfl⟩ := Int.eq_ofNat_of_zero_le (show 0 ≤ t by omega)
    have hx : x < 5 := by omega
    have h2 : so x = 2 := by
      rcases ht with q | q
      · omega
      · have := q.2.2; rw [Int.toNat_natCast] at this; exact this
    unfold bar90 at hb
    rw [if_neg h, Int.toNat_natCast] at hb
    have hroom : (sn A : Int) + (if sn A = 0 then 2 else 1) ≤ 24 ∧ (sb A : Int) + 1 + (if snm A x = -1 then 1 else 0) ≤ 6 := by
      by_cases q : (sn A : Int) + (if sn A = 0 then 2 else 1) ≤ 24 ∧ (sb A : Int) + 1 + (if snm A x = -1 then 1 else 0) ≤ 6
      · exact q
      · rw [if_neg q] at hb; omega
    have hrb : snm A x = -1 → sb A < 5 := by
      intro q
      have := hroom.2
      rw [if_pos q] at this
      omega
    unfold cmB cmA
    rw [if_neg h, if_neg h, Int.toNat_natCast]
    by_cases h0 : sn A = 0
    · have hsd : fStd A 0 = A := by
        have e : fStd A (sd A) = A := rfl
        rw [hI.2.2.2.2.2.2.2.2.2.2.2.1 h0] at e
        exact e
      have hI1 : AI (fApp A 0 0 1) so := hI.app1 (by omega) (by omega) t0 (Or.inr rfl) (fun _ => rfl)
      obtain ⟨j1, j2, j3, b, j4, j5⟩ := nmI hI1 hx h2 (Nat.succ_pos _) hrb
      rw [if_pos h0]
      have hsn : sn (fApp A 0 0 1) = sn A + 1 := rfl
      refine ⟨⟨j1, by rw [j2, hsn]; omega, by rw [j2, hsn]; omega, fun r hr => by omega, b, j4, j5, fun q => by rw [j2, hsn] at q; omega⟩, fun P k M hR hP hk => ?_, fun f M a1 a3 a4 hf hR => ?_⟩
      · obtain ⟨N, n1, n2, n3⟩ := ev_append (b := 0) (t := 0) (d := 1) hR (by omega) (by omega) (by omega) (Or.inr rfl)
        obtain ⟨N2, m1, m2, m3⟩ := ev_nm5 (k := k) n2 hI1 hx h2 (Nat.succ_pos _) hrb hP (by rw [n3 _ _ (by omega), hk])
        refine ⟨N2, ?_, m2, n3.trans m3⟩
        rw [dn_X5_branchToCommitOn, fGt, hk, e_Eqf ⟨by omega, by omega⟩ h, e_Cl (ev_isThere hR hI), fEq_b2, if_neg (by omega)]
        exact (e_Cl n1).trans m1
      · have hR0 : RM f A (fup M 125 f 0) := by have q := hR.std 0; rw [hsd] at q; exact q
        obtain ⟨N, n1, n2, n3⟩ := ev_revise6 (b := 0) (t := 0) (d := 1) hf hR0 hI (by omega) (by omega) (Or.inr rfl)
        obtain ⟨N2, m1, m2, m3⟩ := ev_nm6 hf n2 hI1 hx h2 (Nat.succ_pos _) hrb a1 a3 a4
        refine ⟨N2, ?_, m2, (frM.one (by unfold inF; omega)).trans (n3.trans m3)⟩
        rw [e_Eqt ⟨by omega, by omega⟩ (by omega), e_Wr f rfl hf, e_Ltf ⟨by omega, by omega⟩ (by omega)]
        exact (e_Cl n1).trans m1
    · obtain ⟨j1, j2, j3, b, j4, j5⟩ := nmI hI hx h2 (by omega) hrb
      rw [if_neg h0] at hroom ⊢
      refine ⟨⟨j1, by rw [j2]; omega, by rw [j2]; omega, fun r hr => by rw [j3], b, j4, j5, fun q => by rw [j2] at q; omega⟩, fun P k M hR hP hk => ?_, fun f M a1 a3 a4 hf hR => ?_⟩
      · obtain ⟨N2, m1, m2, m3⟩ := ev_nm5 (k := k) hR hI hx h2 (by omega) hrb hP hk
        refine ⟨N2, ?_, m2, m3⟩
        rw [dn_X5_branchToCommitOn, fGt, hk, e_Eqf ⟨by omega, by omega⟩ h, e_Cl (ev_isThere hR hI), fEq_b2, if_pos (by omega)]
        exact m1
      · obtain ⟨N2, m1, m2, m3⟩ := ev_nm6 hf hR hI hx h2 (by omega) hrb a1 a3 a4
        refine ⟨N2, ?_, m2, m3⟩
        rw [e_Eqf ⟨by omega, by omega⟩ (by omega)]
        exact m1
theorem bar_zero {c f : Nat} (h : bar s c f = 0) : gen s (4 * c + f) ≠ -1 ∧ ¬ (gsk s (4 * c + f) ≠ -1 ∧ gso s (gsk s (4 * c + f)).toNat = 1) ∧ bar90 (gF s f) (gsk s (4 * c + f)) = 0 := by
  unfold bar at h
  split at h
  · omega
  · split at h
    · omega
    · rename_i h1 h2
      refine ⟨h1, h2, ?_⟩
      unfold bar33 at h
      split at h
      · omega
      · split at h
        · omega
        · unfold bar70 at h
          split at h
          · omega
          · exact h
theorem bar_in (c f : Nat) : bar s c f ≤ 0 ∧ -7 ≤ bar s c f := by
  have h90 : ∀ A t, bar90 A t ≤ 0 ∧ -7 ≤ bar90 A t := by
    intro A t
    unfold bar90
    split <;> split <;> omega
  have h70 : ∀ A o m t, bar70 A o m t ≤ 0 ∧ -7 ≤ bar70 A o m t := by
    intro A o m t
    unfold bar70
    split
    · omega
    · exact h90 A t
  have h33 : ∀ A e o m t r, bar33 A e o m t r ≤ 0 ∧ -7 ≤ bar33 A e o m t r := by
    intro A e o m t r
    unfold bar33
    split
    · omega
    · split
      · omega
      · exact h70 A o m t
  unfold bar
  split
  · omega
  · split
    · omega
    · exact h33 _ _ _ _ _ _
theorem gd_commit (hC : RelC s M) (hM : RelM s M) (hI : Inv s) {a1 a2 : Int} (h1 : InI a1) (h2 : InI a2) : Gd InI (dn_X5_commit a1 a2) (dn_X6_commit a1 a2) M := by
  rcases pair_cases a1 a2 with h | ⟨c, f, rfl, rfl, hc, hf⟩
  · exact Gd.same hC hM hI (v := -1) (by rw [dn_X5_commit]; exact open5_no h1 h2 h M _ _) (by rw [dn_X6_commit]; exact open6_no h1 h2 h M _ _) (by omega)
  · have hA := hI.1 f hf
    have h5 := hA.1
    have hin := hI.en_in hc hf
    obtain ⟨i1, i2, i3, i4⟩ := hI.2.2 c f hc hf
    have hk := hC.2.2 (4 * c + f) (by omega)
    have hbi := bar_in (s := s) c f
    have p5 : dn_X5_commit (c : Int) (f : Int) M = if bar s c f = 0 then (if gou s (4 * c + f) = 0 then fCl (dn_X5_commitText (47 + (4 * c + f)) (2 + 11 * f) M) (fun v12 M13 => some (v12, M13)) else fCl (dn_X5_commitGone (47 + (4 * c + f)) (2 + 11 * f) M) (fun v14 M15 => some (v14, M15))) else some (bar s c f, M) := by
      rw [dn_X5_commit]
      refine (open5 hc hf M _ _).trans ((copy5 hc hf M _).trans ?_)
      rw [e_Ix f rfl (by omega), e_Cl (ev_refuse5 hC hI hc hf), e_Eq ⟨by omega, by omega⟩, fGt, hk.2.1, e_Eq ⟨hin.2.1, by omega⟩]
    have p6 : ∀ N, RelM s N → dn_X6_commit (c : Int) (f : Int) N = if gen s (4 * c + f) = -1 then some (-1, N) else if 0 ≤ bar s c f then fEq (sn (gF s f) : Int) 0 (fWr N 125 4 (f : Int) 0 (fun M28 => fLt (gsk s (4 * c + f)) 0 (dn_X6_commit_J84 (c : Int) (f : Int) ((4 * (c : Int)) + (f : Int)) (bar s c f) (gsk s (4 * c + f)) M28) (fCl (dn_X6_revise (f : Int) 0 0 1 M28) (fun v29 M30 => dn_X6_commit_J84 (c : Int) (f : Int) ((4 * (c : Int)) + (f : Int)) (bar s c f) (gsk s (4 * c + f)) M30)))) (dn_X6_commit_J84 (c : Int) (f : Int) ((4 * (c : Int)) + (f : Int)) (bar s c f) (gsk s (4 * c + f)) N) else some (bar s c f, N) := by
      intro N hN
      rw [dn_X6_commit]
      refine (open6 hc hf N _ _).trans ?_
      rw [e_Rd (4 * c + f) (by omega) (by omega), (hN.2.2 _ (by omega)).1, e_Eq ⟨hin.1, by omega⟩]
      by_cases he : gen s (4 * c + f) = -1
      · rw [if_pos he, if_pos he]
      · rw [if_neg he, if_neg he, e_Cl (ev_bars6 hN hI hc hf he), e_Le ⟨by omega, by omega⟩, e_Rd (4 * c + f) (by omega) (by omega), (hN.2.2 _ (by omega)).2.2.2, e_Rd f rfl hf, (hN.1 f hf).1.1]
    by_cases hb : bar s c f = 0
    · obtain ⟨b1, b2', b3⟩ := bar_zero hb
      have hsk : gsk s (4 * c + f) = -1 ∨ (0 ≤ gsk s (4 * c + f) ∧ gsk s (4 * c + f) < 5 ∧ gso s (gsk s (4 * c + f)).toNat = 2) := by
        rcases i4 with q | q
        · exact Or.inl q
        · have := hI.2.1 (gsk s (4 * c + f)).toNat (by omega)
          refine Or.inr ⟨q.1, q.2.1, ?_⟩
          have hne : gsk s (4 * c + f) ≠ -1 := by omega
          have : ¬ gso s (gsk s (4 * c + f)).toNat = 1 := fun z => b2' ⟨hne, z⟩
          omega
      obtain ⟨⟨c1, c2, c3, c4, b, c5, c6, c7⟩, d5, d6⟩ := cm_all hA hsk b3
      rw [if_pos hb] at p5
      obtain ⟨M1, m1, m2, m3⟩ := d5 (2 + 11 * f) (4 * c + f) M (hC.1 f hf) (by omega) hk.2.2.2
      have hk1 : ∀ j, M1 (47 + (4 * c + f)) j = M (47 + (4 * c + f)) j := fun j => m3 _ _ (by omega)
      -- the text and its mark
      generalize htx : (if gou s (4 * c + f) = 0 then gmi s (4 * c + f) else stx (cmA (gF s f) (gsk s (4 * c + f))) (gen s (4 * c + f)).toNat) = tx
      have htxo : tOk tx := by
        rw [← htx]
        split
        · exact i3
        · exact c1.2.1 _ (by omega)
      have hoo : gou s (4 * c + f) = 0 ∨ gou s (4 * c + f) = 1 := by omega
      generalize hA2 : fApp (cmA (gF s f) (gsk s (4 * c + f))) b tx (gou s (4 * c + f)) = A2
      have hAI2 : AI A2 (gso s) := by rw [← hA2]; exact c1.app1 c2 c6 htxo hoo c7
      have hs2 : sn A2 = sn (cmA (gF s f) (gsk s (4 * c + f))) + 1 := by rw [← hA2]; rfl
      obtain ⟨M2, n1, n2, n3⟩ := ev_append (b := b) (t := tx) (d := gou s (4 * c + f)) m2 c6 c2 c1.1.2 hoo
      rw [hA2] at n2
      have hk2 : ∀ j, M2 (47 + (4 * c + f)) j = M (47 + (4 * c + f)) j := fun j => (n3 _ _ (by omega)).trans (hk1 j)
      -- the reference
      have q6 : ∀ N, RelM s N → ∃ N1, dn_X6_commit (c : Int) (f : Int) N = some ((sn (cmA (gF s f) (gsk s (4 * c + f))) : Int), fup (fup N1 128 (4 * c + f) (if gou s (4 * c + f) = 0 then (sn (cmA (gF s f) (gsk s (4 * c + f))) : Int) else -1)) 129 (4 * c + f) 0) ∧ RM f A2 N1 ∧ frM f N N1 := by
        intro N hN
        obtain ⟨N1, r1, r2, r3⟩ := d6 f N (c : Int) ((4 * (c : Int)) + (f : Int)) (bar s c f) hf (hN.1 f hf)
        have hkN := hN.2.2 (4 * c + f) (by omega)
        have k1 : N1 128 (4 * c + f) = gen s (4 * c + f) := (r3 _ _ (by unfold inF; omega)).trans hkN.1
        have k2 : N1 129 (4 * c + f) = gou s (4 * c + f) := (r3 _ _ (by unfold inF; omega)).trans hkN.2.1
        have k3 : N1 130 (4 * c + f) = gmi s (4 * c + f) := (r3 _ _ (by unfold inF; omega)).trans hkN.2.2.1
        obtain ⟨N2, u1, u2, u3⟩ := ev_revise6 (b := b) (t := tx) (d := gou s (4 * c + f)) hf r2 c1 c6 c2 hoo
        rw [hA2] at u2
        have k4 : N2 129 (4 * c + f) = gou s (4 * c + f) := (u3 _ _ (by unfold inF; omega)).trans k2
        refine ⟨N2, ?_, u2, r3.trans u3⟩
        have j207 : dn_X6_commit_J207 (c : Int) (f : Int) ((4 * (c : Int)) + (f : Int)) (bar s c f) (gsk s (4 * c + f)) tx (b : Int) (f : Int) N1 = some ((sn (cmA (gF s f) (gsk s (4 * c + f))) : Int), fup (fup N2 128 (4 * c + f) (if gou s (4 * c + f) = 0 then (sn (cmA (gF s f) (gsk s (4 * c + f))) : Int) else -1)) 129 (4 * c + f) 0) := by
          rw [dn_X6_commit_J207, e_Rd (4 * c + f) (by omega) (by omega), k2, e_Cl u1, e_Rd (4 * c + f) (by omega) (by omega), k4, e_Eq ⟨hin.2.1, by omega⟩]
          by_cases o0 : gou s (4 * c + f) = 0
          · rw [if_pos o0, if_pos o0, dn_X6_commit_J240, e_Wr (4 * c + f) (by omega) (by omega), e_Wz (4 * c + f) (by omega) (by omega) (by omega)]
          · rw [if_neg o0, if_neg o0, dn_X6_commit_J240, e_Wr (4 * c + f) (by omega) (by omega), e_Wz (4 * c + f) (by omega) (by omega) (by omega)]
        have j183 : dn_X6_commit_J183 (c : Int) (f : Int) ((4 * (c : Int)) + (f : Int)) (bar s c f) (gsk s (4 * c + f)) tx N1 = dn_X6_commit_J207 (c : Int) (f : Int) ((4 * (c : Int)) + (f : Int)) (bar s c f) (gsk s (4 * c + f)) tx (b : Int) (f : Int) N1 := by
          rw [dn_X6_commit_J183, e_Le ⟨by omega, hin.2.2.1⟩]
          unfold cmB at c5
          by_cases t0 : gsk s (4 * c + f) = -1
          · rw [if_pos t0] at c5
            rw [if_neg (by omega), ← c5]
          · rw [if_neg t0] at c5
            rw [if_pos (by omega), e_Rd (5 * f + (gsk s (4 * c + f)).toNat) (by omega) (by omega), r2.2.2.2 _ (by omega), c5]
        rw [p6 N hN, if_neg b1, if_pos (by omega), r1, dn_X6_commit_J149, e_Rd (4 * c + f) (by omega) (by omega), k2, e_Eq ⟨hin.2.1, by omega⟩, ← j207, ← j183, ← htx]
        by_cases o0 : gou s (4 * c + f) = 0
        · rw [if_pos o0, if_pos o0, e_Rd (4 * c + f) (by omega) (by omega), k3]
        · rw [if_neg o0, if_neg o0, e_Rd (4 * c + f) (by omega) (by omega), k1, e_Rd (24 * f + (gen s (4 * c + f)).toNat) (by omega) (by omega), (r2.2.1 _ (by omega)).1]
      -- the class
      have q5 : ∃ M3, dn_X5_commit (c : Int) (f : Int) M = some ((sn (cmA (gF s f) (gsk s (4 * c + f))) : Int), M3) ∧ (M3 (47 + (4 * c + f)) 0 = (if gou s (4 * c + f) = 0 then (sn (cmA (gF s f) (gsk s (4 * c + f))) : Int) else -1) ∧ M3 (47 + (4 * c + f)) 1 = 0 ∧ M3 (47 + (4 * c + f)) 2 = gmi s (4 * c + f) ∧ M3 (47 + (4 * c + f)) 3 = gsk s (4 * c + f)) ∧ ∀ q j, q ≠ 47 + (4 * c + f) → M3 q j = M2 q j := by
        by_cases o0 : gou s (4 * c + f) = 0
        · rw [if_pos o0] at htx
          rw [o0] at n1
          refine ⟨fup (fup (fup M2 (47 + (4 * c + f)) 0 (sn (cmA (gF s f) (gsk s (4 * c + f))) : Int)) (47 + (4 * c + f)) 1 0) (47 + (4 * c + f)) 2 (gmi s (4 * c + f)), ?_, ⟨?_, ?_, ?_, ?_⟩, fun q j hq => ?_⟩
          · rw [p5, if_pos o0, dn_X5_commitText, e_Cl m1, fGt, hk1, hk.2.2.1, c5, htx, e_Cl n1, fGt, hk2, hk.2.2.1, htx, e_Cl (ev_hold M2 _ _ _), fCl_some]
          · rw [if_pos o0, fup_ne (by omega), fup_ne (by omega), fup_self]
          · rw [fup_ne (by omega), fup_self]
          · rw [fup_self]
          · rw [fup_ne (by omega), fup_ne (by omega), fup_ne (by omega), hk2]; exact hk.2.2.2
          · rw [fup_ne (by omega), fup_ne (by omega), fup_ne (by omega)]
        · rw [if_neg o0] at htx
          have o1 : gou s (4 * c + f) = 1 := by omega
          rw [o1] at n1
          refine ⟨fup (fup M2 (47 + (4 * c + f)) 0 (-1)) (47 + (4 * c + f)) 1 0, ?_, ⟨?_, ?_, ?_, ?_⟩, fun q j hq => ?_⟩
          · rw [p5, if_neg o0, dn_X5_commitGone, e_Cl m1, fGt, hk1, hk.1, e_Rd (gen s (4 * c + f)).toNat (by omega) (by omega), (m2.2.1 _ (by omega)).1, htx, c5, e_Cl n1, e_Cl (ev_drop M2 _), fCl_some]
          · rw [if_neg o0, fup_ne (by omega), fup_self]
          · rw [fup_self]
          · rw [fup_ne (by omega), fup_ne (by omega), hk2]; exact hk.2.2.1
          · rw [fup_ne (by omega), fup_ne (by omega), hk2]; exact hk.2.2.2
          · rw [fup_ne (by omega), fup_ne (by omega)]
      obtain ⟨M3, v1, v2, v3⟩ := q5
      have hfr12 : frP (2 + 11 * f) M M2 := m3.trans n3
      have hM3 : RelM s M3 := hM.fr (fun q k w1 w2 => by rw [v3 q k (by omega), hfr12 q k (by omega)])
      obtain ⟨N1, x1, x2, x3⟩ := q6 M3 hM3
      have hCF : RelC (wF s f A2) M2 := hC.wF hf n2 hfr12
      have hMF : RelM (wF s f A2) N1 := hM3.wF hf x2 x3
      have hkN := hM3.2.2 (4 * c + f) (by omega)
      have hle : sn (gF s f) ≤ sn A2 := by omega
      refine ⟨_, M3, _, wC (wF s f A2) (4 * c + f) (if gou s (4 * c + f) = 0 then (sn (cmA (gF s f) (gsk s (4 * c + f))) : Int) else -1) 0 (gmi s (4 * c + f)) (gsk s (4 * c + f)), v1, x1, by omega, ?_, ?_, (hI.wF hAI2 hle).wC hc hf ?_⟩
      · have hC3 : RelC (wC (wF s f A2) (4 * c + f) (if gou s (4 * c + f) = 0 then (sn (cmA (gF s f) (gsk s (4 * c + f))) : Int) else -1) 0 (gmi s (4 * c + f)) (gsk s (4 * c + f))) M3 := hCF.wC (by omega) v2 (fun q j hq => v3 q j hq)
        exact hC3.fr (fun q k hq => by rw [fup_ne (by omega), fup_ne (by omega), x3.lo (by omega)])
      · refine hMF.wC ⟨?_, ?_, ?_, ?_⟩ (fun q j hq => by rw [fup_ne (by omega), fup_ne (by omega)])
        · rw [fup_ne (by omega), fup_self]
        · rw [fup_self]
        · rw [fup_ne (by omega), fup_ne (by omega), x3 _ _ (by unfold inF; omega)]; exact hkN.2.2.1
        · rw [fup_ne (by omega), fup_ne (by omega), x3 _ _ (by unfold inF; omega)]; exact hkN.2.2.2
      · show CI (gso s) (if f = f then A2 else gF s f) _ 0 _ _
        rw [if_pos rfl]
        refine ⟨?_, Or.inl rfl, i3, i4⟩
        split <;> omega
    · rw [if_neg hb] at p5
      refine Gd.same hC hM hI p5 ?_ (by omega)
      rw [p6 M hM]
      by_cases he : gen s (4 * c + f) = -1
      · rw [if_pos he]
        unfold bar
        rw [if_pos he]
      · rw [if_neg he, if_neg (by omega)]
end PO7
