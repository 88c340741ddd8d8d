/-! a file's invariant is kept -/
section PI
variable {A : FS} {so : Nat → Int}
theorem lst_self {ho : Nat → Int} {b : Int} {k n : Nat} (hk : k < n) (h : ho k = b) : lst ho b n ≠ -1 := fun q => lst_none q k hk h
theorem AI.app (hI : AI A so) {b : Nat} {t d : Int} (hn : sn A < 24) (hb : b ≤ sb A) (ht : tOk t) (hd : d = 0 ∨ d = 1) (h0 : sn A = 0 → b = 0) {v : Int} (hv : v = sd A ∨ v = (b : Int)) : AI (fApp (fStd A v) b t d) so := by
  obtain ⟨i1, i2, i3, i4, i5, i6, i7, i8, i9, i10, i11, i12, i13⟩ := hI
  refine ⟨⟨by show sn A + 1 ≤ 24; omega, i1.2⟩, fun r hr => ?_, fun r hr => ?_, fun r hr => ?_, fun r hr => ?_, fun b' h1 h2 => ?_, i7, i8, ?_, fun t' ht' => ?_, fun _ => ?_, fun q => absurd q (Nat.succ_ne_zero _), fun _ => ?_⟩
  · show tOk (pup (stx A) (sn A) t r)
    by_cases h : r = sn A
    · subst h; rw [pup_s]; exact ht
    · rw [pup_n h]; exact i2 r (by have : r < sn A + 1 := hr; omega)
  · show pup (sdd A) (sn A) d r = 0 ∨ pup (sdd A) (sn A) d r = 1
    by_cases h : r = sn A
    · subst h; rw [pup_s]; exact hd
    · rw [pup_n h]; exact i3 r (by have : r < sn A + 1 := hr; omega)
  · show 0 ≤ pup (sho A) (sn A) (b : Int) r ∧ pup (sho A) (sn A) (b : Int) r ≤ (sb A : Int)
    by_cases h : r = sn A
    · subst h; rw [pup_s]; omega
    · rw [pup_n h]; exact i4 r (by have : r < sn A + 1 := hr; omega)
  · show pup (srk A) (sn A) ((cnt (sho A) (b : Int) (sn A) + 1 : Nat) : Int) r = (cnt (pup (sho A) (sn A) (b : Int)) (pup (sho A) (sn A) (b : Int) r) (r + 1) : Int)
    by_cases h : r = sn A
    · subst h
      rw [pup_s, pup_s, cnt_s, pup_s, if_pos rfl, cnt_congr (ho := sho A) (fun k hk => pup_n (by omega))]
      omega
    · have hr' : r < sn A := by have : r < sn A + 1 := hr; omega
      rw [pup_n h, pup_n h, cnt_congr (ho := sho A) (fun k hk => pup_n (by omega))]
      exact i5 r hr'
  · have h3 := i6 b' h1 h2
    refine ⟨h3.1, ?_, ?_⟩
    · show spt A b' < ((sn A + 1 : Nat) : Int)
      omega
    · show pup (sho A) (sn A) (b : Int) (spt A b').toNat < (b' : Int)
      rw [pup_n (by omega)]
      exact h3.2.2
  · show 0 ≤ v ∧ v ≤ (sb A : Int)
    omega
  · show snm A t' = -1 ∨ (so t' = 1 ∧ 0 ≤ snm A t' ∧ snm A t' < ((sn A + 1 : Nat) : Int)) ∨ (so t' = 2 ∧ 1 ≤ snm A t' ∧ snm A t' ≤ (sb A : Int))
    have := i10 t' ht'
    omega
  · show pup (sho A) (sn A) (b : Int) 0 = 0
    by_cases h : sn A = 0
    · rw [h, pup_s, h0 h]; rfl
    · rw [pup_n (fun q => h q.symm)]; exact i11 (by omega)
  · show lst (pup (sho A) (sn A) (b : Int)) v (sn A + 1) ≠ -1
    rw [lst_s, pup_s]
    by_cases h : (b : Int) = v
    · rw [if_pos h]; omega
    · rw [if_neg h, lst_congr (ho := sho A) (fun k hk => pup_n (by omega))]
      have hvd : v = sd A := by omega
      have : 0 < sn A := by
        by_cases hz : sn A = 0
        · exact absurd (by rw [hvd, i12 hz, h0 hz]; rfl) h
        · omega
      rw [hvd]
      exact i13 this
theorem AI.app1 (hI : AI A so) {b : Nat} {t d : Int} (hn : sn A < 24) (hb : b ≤ sb A) (ht : tOk t) (hd : d = 0 ∨ d = 1) (h0 : sn A = 0 → b = 0) : AI (fApp A b t d) so := hI.app (v := sd A) hn hb ht hd h0 (Or.inl rfl)
theorem AI.opn (hI : AI A so) {p : Nat} (hb : sb A < 5) (hp : p < sn A) : AI (fOpn A (p : Int) (newMg A (p : Int))) so := by
  obtain ⟨i1, i2, i3, i4, i5, i6, i7, i8, i9, i10, i11, i12, i13⟩ := hI
  refine ⟨⟨i1.1, hb⟩, i2, i3, fun r hr => ?_, i5, fun b h1 h2 => ?_, fun b h1 h2 => ?_, ?_, ?_, fun t' ht' => ?_, i11, i12, i13⟩
  · show 0 ≤ sho A r ∧ sho A r ≤ ((sb A + 1 : Nat) : Int)
    have := i4 r hr
    omega
  · show 0 ≤ pup (spt A) (sb A + 1) (p : Int) b ∧ pup (spt A) (sb A + 1) (p : Int) b < (sn A : Int) ∧ sho A (pup (spt A) (sb A + 1) (p : Int) b).toNat < (b : Int)
    by_cases h : b = sb A + 1
    · subst h
      rw [pup_s, Int.toNat_natCast]
      have := i4 p hp
      omega
    · rw [pup_n h]; exact i6 b h1 (by have : b ≤ sb A + 1 := h2; omega)
  · show pup (smg A) (sb A + 1) (newMg A (p : Int)) b = mgOf (fOpn A (p : Int) (newMg A (p : Int))) b
    show _ = (if (b : Int) = sv A then 1 else 2 * (cpt (pup (spt A) (sb A + 1) (p : Int)) (sv A) (pup (spt A) (sb A + 1) (p : Int) b) b : Int) + 2)
    by_cases h : b = sb A + 1
    · subst h
      rw [pup_s, pup_s, if_neg (by omega), cpt_congr (pt := spt A) (v := sv A) (fun j hj => ⟨pup_n (by omega), Iff.rfl⟩)]
      unfold newMg
      omega
    · have hb' : b ≤ sb A := by have : b ≤ sb A + 1 := h2; omega
      rw [pup_n h, pup_n h, cpt_congr (pt := spt A) (v := sv A) (fun j hj => ⟨pup_n (by omega), Iff.rfl⟩)]
      exact i7 b h1 hb'
  · show sv A = -1 ∨ (1 ≤ sv A ∧ sv A ≤ ((sb A + 1 : Nat) : Int))
    omega
  · show 0 ≤ sd A ∧ sd A ≤ ((sb A + 1 : Nat) : Int)
    omega
  · show snm A t' = -1 ∨ (so t' = 1 ∧ 0 ≤ snm A t' ∧ snm A t' < (sn A : Int)) ∨ (so t' = 2 ∧ 1 ≤ snm A t' ∧ snm A t' ≤ ((sb A + 1 : Nat) : Int))
    have := i10 t' ht'
    omega
theorem AI.ven (hI : AI A so) (hb : sb A < 5) (hv : sv A = -1) (hn : 0 < sn A) : AI (fVen (fOpn A 0 1) ((sb A + 1 : Nat) : Int)) so := by
  obtain ⟨i1, i2, i3, i4, i5, i6, i7, i8, i9, i10, i11, i12, i13⟩ := hI
  refine ⟨⟨i1.1, hb⟩, i2, i3, fun r hr => ?_, i5, fun b h1 h2 => ?_, fun b h1 h2 => ?_, ?_, ?_, fun t' ht' => ?_, i11, i12, i13⟩
  · show 0 ≤ sho A r ∧ sho A r ≤ ((sb A + 1 : Nat) : Int)
    have := i4 r hr
    omega
  · show 0 ≤ pup (spt A) (sb A + 1) 0 b ∧ pup (spt A) (sb A + 1) 0 b < (sn A : Int) ∧ sho A (pup (spt A) (sb A + 1) 0 b).toNat < (b : Int)
    by_cases h : b = sb A + 1
    · subst h
      rw [pup_s]
      have := i11 hn
      have h0 : (0 : Int).toNat = 0 := rfl
      rw [h0, this]
      omega
    · rw [pup_n h]; exact i6 b h1 (by have : b ≤ sb A + 1 := h2; omega)
  · show pup (smg A) (sb A + 1) 1 b = (if (b : Int) = ((sb A + 1 : Nat) : Int) then 1 else 2 * (cpt (pup (spt A) (sb A + 1) 0) ((sb A + 1 : Nat) : Int) (pup (spt A) (sb A + 1) 0 b) b : Int) + 2)
    by_cases h : b = sb A + 1
    · subst h
      rw [pup_s, if_pos rfl]
    · have hb' : b ≤ sb A := by have : b ≤ sb A + 1 := h2; omega
      rw [pup_n h, pup_n h, if_neg (by omega), cpt_congr (pt := spt A) (v := sv A) (fun j hj => ⟨pup_n (by omega), by omega⟩), i7 b h1 hb']
      unfold mgOf
      rw [if_neg (by omega)]
  · show ((sb A + 1 : Nat) : Int) = -1 ∨ (1 ≤ ((sb A + 1 : Nat) : Int) ∧ ((sb A + 1 : Nat) : Int) ≤ ((sb A + 1 : Nat) : Int))
    omega
  · show 0 ≤ sd A ∧ sd A ≤ ((sb A + 1 : Nat) : Int)
    omega
  · show snm A t' = -1 ∨ (so t' = 1 ∧ 0 ≤ snm A t' ∧ snm A t' < (sn A : Int)) ∨ (so t' = 2 ∧ 1 ≤ snm A t' ∧ snm A t' ≤ ((sb A + 1 : Nat) : Int))
    have := i10 t' ht'
    omega
theorem AI.std0 (hI : AI A so) : AI (fStd A 0) so := by
  obtain ⟨i1, i2, i3, i4, i5, i6, i7, i8, i9, i10, i11, i12, i13⟩ := hI
  exact ⟨i1, i2, i3, i4, i5, i6, i7, i8, ⟨Int.le_refl 0, Int.natCast_nonneg _⟩, i10, i11, fun _ => rfl, fun h => lst_self h (i11 h)⟩
theorem AI.nam (hI : AI A so) {t : Nat} {v : Int} (hv : (so t = 1 ∧ 0 ≤ v ∧ v < (sn A : Int)) ∨ (so t = 2 ∧ 1 ≤ v ∧ v ≤ (sb A : Int))) : AI (fNam A t v) so := by
  obtain ⟨i1, i2, i3, i4, i5, i6, i7, i8, i9, i10, i11, i12, i13⟩ := hI
  refine ⟨i1, i2, i3, i4, i5, i6, i7, i8, i9, fun t' ht' => ?_, i11, i12, i13⟩
  show pup (snm A) t v t' = -1 ∨ (so t' = 1 ∧ 0 ≤ pup (snm A) t v t' ∧ pup (snm A) t v t' < (sn A : Int)) ∨ (so t' = 2 ∧ 1 ≤ pup (snm A) t v t' ∧ pup (snm A) t v t' ≤ (sb A : Int))
  by_cases h : t' = t
  · subst h; rw [pup_s]; exact Or.inr hv
  · rw [pup_n h]; exact i10 t' ht'
theorem AI.sort (hI : AI A so) {t : Nat} {v : Int} (h0 : so t = 0 ∨ so t = v) : AI A (pup so t v) := by
  obtain ⟨i1, i2, i3, i4, i5, i6, i7, i8, i9, i10, i11, i12, i13⟩ := hI
  refine ⟨i1, i2, i3, i4, i5, i6, i7, i8, i9, fun t' ht' => ?_, i11, i12, i13⟩
  have := i10 t' ht'
  by_cases h : t' = t
  · subst h; rw [pup_s]; omega
  · rw [pup_n h]; exact this
theorem Inv.wS {s : GS} (h : Inv s) {t : Nat} {v : Int} (hv : v = 1 ∨ v = 2) (h0 : gso s t = 0 ∨ gso s t = v) : Inv (wS s t v) := by
  refine ⟨fun f hf => (h.1 f hf).sort h0, fun t' ht' => ?_, fun c f hc hf => ?_⟩
  · show pup (gso s) t v t' = 0 ∨ pup (gso s) t v t' = 1 ∨ pup (gso s) t v t' = 2
    by_cases hh : t' = t
    · subst hh; rw [pup_s]; omega
    · rw [pup_n hh]; exact h.2.1 t' ht'
  · obtain ⟨h1, h2, h3, h4⟩ := h.2.2 c f hc hf
    refine ⟨h1, h2, h3, ?_⟩
    show gsk s (4 * c + f) = -1 ∨ (0 ≤ gsk s (4 * c + f) ∧ gsk s (4 * c + f) < 5 ∧ pup (gso s) t v (gsk s (4 * c + f)).toNat ≠ 0)
    by_cases hh : (gsk s (4 * c + f)).toNat = t
    · rw [hh, pup_s]; omega
    · rw [pup_n hh]; exact h4
end PI
