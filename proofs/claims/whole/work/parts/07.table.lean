/-! the table of places -/
def TB : List fEn := [(4, 4, [(2, 1), (2, 46), (2, 59), (2, 60), (2, 78)]),
  (3, 3, [(2, 2), (2, 13), (2, 24), (2, 35)]),
  (4, 2, [(2, 3), (2, 4), (2, 5), (2, 6), (2, 7), (0, 0), (2, 8), (2, 9), (2, 10), (2, 11), (0, 0), (0, 0), (0, 0), (2, 12)]),
  (2, 24, []),
  (1, 24, []),
  (0, 24, []),
  (0, 24, []),
  (0, 24, []),
  (0, 6, []),
  (0, 6, []),
  (0, 6, []),
  (0, 6, []),
  (0, 5, []),
  (4, 2, [(2, 14), (2, 15), (2, 16), (2, 17), (2, 18), (0, 0), (2, 19), (2, 20), (2, 21), (2, 22), (0, 0), (0, 0), (0, 0), (2, 23)]),
  (2, 24, []),
  (1, 24, []),
  (0, 24, []),
  (0, 24, []),
  (0, 24, []),
  (0, 6, []),
  (0, 6, []),
  (0, 6, []),
  (0, 6, []),
  (0, 5, []),
  (4, 2, [(2, 25), (2, 26), (2, 27), (2, 28), (2, 29), (0, 0), (2, 30), (2, 31), (2, 32), (2, 33), (0, 0), (0, 0), (0, 0), (2, 34)]),
  (2, 24, []),
  (1, 24, []),
  (0, 24, []),
  (0, 24, []),
  (0, 24, []),
  (0, 6, []),
  (0, 6, []),
  (0, 6, []),
  (0, 6, []),
  (0, 5, []),
  (4, 2, [(2, 36), (2, 37), (2, 38), (2, 39), (2, 40), (0, 0), (2, 41), (2, 42), (2, 43), (2, 44), (0, 0), (0, 0), (0, 0), (2, 45)]),
  (2, 24, []),
  (1, 24, []),
  (0, 24, []),
  (0, 24, []),
  (0, 24, []),
  (0, 6, []),
  (0, 6, []),
  (0, 6, []),
  (0, 6, []),
  (0, 5, []),
  (3, 4, [(2, 47), (2, 48), (2, 49), (2, 50), (2, 51), (2, 52), (2, 53), (2, 54), (2, 55), (2, 56), (2, 57), (2, 58)]),
  (4, 0, [(0, 0), (0, 0), (1, 0), (0, 0)]),
  (4, 0, [(0, 0), (0, 0), (1, 0), (0, 0)]),
  (4, 0, [(0, 0), (0, 0), (1, 0), (0, 0)]),
  (4, 0, [(0, 0), (0, 0), (1, 0), (0, 0)]),
  (4, 0, [(0, 0), (0, 0), (1, 0), (0, 0)]),
  (4, 0, [(0, 0), (0, 0), (1, 0), (0, 0)]),
  (4, 0, [(0, 0), (0, 0), (1, 0), (0, 0)]),
  (4, 0, [(0, 0), (0, 0), (1, 0), (0, 0)]),
  (4, 0, [(0, 0), (0, 0), (1, 0), (0, 0)]),
  (4, 0, [(0, 0), (0, 0), (1, 0), (0, 0)]),
  (4, 0, [(0, 0), (0, 0), (1, 0), (0, 0)]),
  (4, 0, [(0, 0), (0, 0), (1, 0), (0, 0)]),
  (0, 5, []),
  (4, 1, [(2, 61), (2, 62), (0, 0), (0, 0), (2, 63), (2, 77), (0, 0)]),
  (0, 12, []),
  (0, 12, []),
  (3, 5, [(2, 64), (2, 65), (2, 66), (2, 67), (2, 68), (2, 69), (2, 70), (2, 71), (2, 72), (2, 73), (2, 74), (2, 75), (2, 76)]),
  (0, 13, []),
  (0, 13, []),
  (0, 13, []),
  (0, 13, []),
  (0, 13, []),
  (0, 13, []),
  (0, 13, []),
  (0, 13, []),
  (0, 13, []),
  (0, 13, []),
  (0, 13, []),
  (0, 13, []),
  (0, 13, []),
  (0, 12, []),
  (4, 3, [(2, 79), (2, 97), (1, 0), (0, 0), (0, 0)]),
  (4, 1, [(2, 80), (2, 81), (0, 0), (0, 0), (2, 82), (2, 96), (0, 0)]),
  (0, 12, []),
  (0, 12, []),
  (3, 5, [(2, 83), (2, 84), (2, 85), (2, 86), (2, 87), (2, 88), (2, 89), (2, 90), (2, 91), (2, 92), (2, 93), (2, 94), (2, 95)]),
  (0, 13, []),
  (0, 13, []),
  (0, 13, []),
  (0, 13, []),
  (0, 13, []),
  (0, 13, []),
  (0, 13, []),
  (0, 13, []),
  (0, 13, []),
  (0, 13, []),
  (0, 13, []),
  (0, 13, []),
  (0, 13, []),
  (0, 12, []),
  (4, 1, [(2, 98), (2, 99), (0, 0), (0, 0), (2, 100), (2, 114), (0, 0)]),
  (0, 12, []),
  (0, 12, []),
  (3, 5, [(2, 101), (2, 102), (2, 103), (2, 104), (2, 105), (2, 106), (2, 107), (2, 108), (2, 109), (2, 110), (2, 111), (2, 112), (2, 113)]),
  (0, 13, []),
  (0, 13, []),
  (0, 13, []),
  (0, 13, []),
  (0, 13, []),
  (0, 13, []),
  (0, 13, []),
  (0, 13, []),
  (0, 13, []),
  (0, 13, []),
  (0, 13, []),
  (0, 13, []),
  (0, 13, []),
  (0, 12, []),
  (4, 5, [(2, 116), (2, 117), (2, 118), (2, 119), (2, 120), (2, 121), (2, 122), (2, 123), (2, 124), (2, 125), (2, 126), (2, 127), (2, 128), (2, 129), (2, 130), (2, 131), (2, 132), (2, 133), (2, 134), (2, 135), (0, 0), (0, 0)]),
  (0, 4, []),
  (2, 96, []),
  (1, 96, []),
  (0, 96, []),
  (0, 96, []),
  (0, 4, []),
  (0, 24, []),
  (0, 24, []),
  (0, 4, []),
  (0, 4, []),
  (0, 5, []),
  (0, 20, []),
  (0, 12, []),
  (1, 12, []),
  (2, 12, []),
  (0, 12, []),
  (0, 169, []),
  (0, 13, []),
  (0, 13, []),
  (0, 64, [])]
set_option maxRecDepth 100000 in
theorem TB_len : TB.length = 136 := rfl
def fIsH (P : Nat) : Prop := P = 2 ∨ P = 13 ∨ P = 24 ∨ P = 35
def fIsC (P : Nat) : Prop := 47 ≤ P ∧ P < 59
def fIsD (P : Nat) : Prop := P = 60 ∨ P = 79 ∨ P = 97
theorem fIsD_60 : fIsD 60 := by unfold fIsD; omega
theorem fIsD_79 : fIsD 79 := by unfold fIsD; omega
theorem fIsD_97 : fIsD 97 := by unfold fIsD; omega
theorem fIsH_of {P : Nat} (h : ∃ j, j < 4 ∧ P = 2 + 11 * j) : fIsH P := by
  obtain ⟨j, h1, rfl⟩ := h
  unfold fIsH
  omega
theorem fIsC_of {P : Nat} (h : ∃ j, j < 12 ∧ P = 47 + 1 * j) : fIsC P := by
  obtain ⟨j, h1, rfl⟩ := h
  unfold fIsC
  omega
theorem tb_RS : TB[0]? = some (4, 4, [(2, 1), (2, 46), (2, 59), (2, 60), (2, 78)]) := rfl
theorem tb_HA : TB[1]? = some (3, 3, [(2, 2), (2, 13), (2, 24), (2, 35)]) := rfl
theorem tb_HA_q : ∀ j, j < 4 → ([(2, 2), (2, 13), (2, 24), (2, 35)] : List (Nat × Nat))[j]? = some (2, 2 + 11 * j) := by decide
theorem tb_CA : TB[46]? = some (3, 4, [(2, 47), (2, 48), (2, 49), (2, 50), (2, 51), (2, 52), (2, 53), (2, 54), (2, 55), (2, 56), (2, 57), (2, 58)]) := rfl
theorem tb_CA_q : ∀ j, j < 12 → ([(2, 47), (2, 48), (2, 49), (2, 50), (2, 51), (2, 52), (2, 53), (2, 54), (2, 55), (2, 56), (2, 57), (2, 58)] : List (Nat × Nat))[j]? = some (2, 47 + 1 * j) := by decide
theorem tb_TS : TB[59]? = some (0, 5, []) := rfl
theorem tb_MG : TB[78]? = some (4, 3, [(2, 79), (2, 97), (1, 0), (0, 0), (0, 0)]) := rfl
theorem tb_MD : TB[115]? = some (4, 5, [(2, 116), (2, 117), (2, 118), (2, 119), (2, 120), (2, 121), (2, 122), (2, 123), (2, 124), (2, 125), (2, 126), (2, 127), (2, 128), (2, 129), (2, 130), (2, 131), (2, 132), (2, 133), (2, 134), (2, 135), (0, 0), (0, 0)]) := rfl
theorem tb_MD_1 : TB[116]? = some (0, 4, []) := rfl
theorem tb_MD_2 : TB[117]? = some (2, 96, []) := rfl
theorem tb_MD_3 : TB[118]? = some (1, 96, []) := rfl
theorem tb_MD_4 : TB[119]? = some (0, 96, []) := rfl
theorem tb_MD_5 : TB[120]? = some (0, 96, []) := rfl
theorem tb_MD_6 : TB[121]? = some (0, 4, []) := rfl
theorem tb_MD_7 : TB[122]? = some (0, 24, []) := rfl
theorem tb_MD_8 : TB[123]? = some (0, 24, []) := rfl
theorem tb_MD_9 : TB[124]? = some (0, 4, []) := rfl
theorem tb_MD_10 : TB[125]? = some (0, 4, []) := rfl
theorem tb_MD_11 : TB[126]? = some (0, 5, []) := rfl
theorem tb_MD_12 : TB[127]? = some (0, 20, []) := rfl
theorem tb_MD_13 : TB[128]? = some (0, 12, []) := rfl
theorem tb_MD_14 : TB[129]? = some (1, 12, []) := rfl
theorem tb_MD_15 : TB[130]? = some (2, 12, []) := rfl
theorem tb_MD_16 : TB[131]? = some (0, 12, []) := rfl
theorem tb_MD_17 : TB[132]? = some (0, 169, []) := rfl
theorem tb_MD_18 : TB[133]? = some (0, 13, []) := rfl
theorem tb_MD_19 : TB[134]? = some (0, 13, []) := rfl
theorem tb_MD_20 : TB[135]? = some (0, 64, []) := rfl
theorem tb_H {P : Nat} (h : fIsH P) : TB[P]? = some (4, 2, [(2, P + 1), (2, P + 2), (2, P + 3), (2, P + 4), (2, P + 5), (0, 0), (2, P + 6), (2, P + 7), (2, P + 8), (2, P + 9), (0, 0), (0, 0), (0, 0), (2, P + 10)]) := by rcases h with rfl | rfl | rfl | rfl <;> rfl
theorem tb_H_1 {P : Nat} (h : fIsH P) : TB[P + 1]? = some (2, 24, []) := by rcases h with rfl | rfl | rfl | rfl <;> rfl
theorem tb_H_2 {P : Nat} (h : fIsH P) : TB[P + 2]? = some (1, 24, []) := by rcases h with rfl | rfl | rfl | rfl <;> rfl
theorem tb_H_3 {P : Nat} (h : fIsH P) : TB[P + 3]? = some (0, 24, []) := by rcases h with rfl | rfl | rfl | rfl <;> rfl
theorem tb_H_4 {P : Nat} (h : fIsH P) : TB[P + 4]? = some (0, 24, []) := by rcases h with rfl | rfl | rfl | rfl <;> rfl
theorem tb_H_5 {P : Nat} (h : fIsH P) : TB[P + 5]? = some (0, 24, []) := by rcases h with rfl | rfl | rfl | rfl <;> rfl
theorem tb_H_6 {P : Nat} (h : fIsH P) : TB[P + 6]? = some (0, 6, []) := by rcases h with rfl | rfl | rfl | rfl <;> rfl
theorem tb_H_7 {P : Nat} (h : fIsH P) : TB[P + 7]? = some (0, 6, []) := by rcases h with rfl | rfl | rfl | rfl <;> rfl
theorem tb_H_8 {P : Nat} (h : fIsH P) : TB[P + 8]? = some (0, 6, []) := by rcases h with rfl | rfl | rfl | rfl <;> rfl
theorem tb_H_9 {P : Nat} (h : fIsH P) : TB[P + 9]? = some (0, 6, []) := by rcases h with rfl | rfl | rfl | rfl <;> rfl
theorem tb_H_10 {P : Nat} (h : fIsH P) : TB[P + 10]? = some (0, 5, []) := by rcases h with rfl | rfl | rfl | rfl <;> rfl
theorem tb_C {P : Nat} (h : fIsC P) : TB[P]? = some (4, 0, [(0, 0), (0, 0), (1, 0), (0, 0)]) := by
  unfold fIsC at h
  rcases (show P = 47 ∨ P = 48 ∨ P = 49 ∨ P = 50 ∨ P = 51 ∨ P = 52 ∨ P = 53 ∨ P = 54 ∨ P = 55 ∨ P = 56 ∨ P = 57 ∨ P = 58 by omega) with rfl | rfl | rfl | rfl | rfl | rfl | rfl | rfl | rfl | rfl | rfl | rfl <;> rfl
theorem tb_D {P : Nat} (h : fIsD P) : TB[P]? = some (4, 1, [(2, P + 1), (2, P + 2), (0, 0), (0, 0), (2, P + 3), (2, P + 17), (0, 0)]) := by rcases h with rfl | rfl | rfl <;> rfl
theorem tb_D_1 {P : Nat} (h : fIsD P) : TB[P + 1]? = some (0, 12, []) := by rcases h with rfl | rfl | rfl <;> rfl
theorem tb_D_2 {P : Nat} (h : fIsD P) : TB[P + 2]? = some (0, 12, []) := by rcases h with rfl | rfl | rfl <;> rfl
theorem tb_D_17 {P : Nat} (h : fIsD P) : TB[P + 17]? = some (0, 12, []) := by rcases h with rfl | rfl | rfl <;> rfl
theorem tb_Dc {P : Nat} (h : fIsD P) : TB[P + 3]? = some (3, 5, (List.range 13).map (fun k => (2, P + 4 + 1 * k))) := by rcases h with rfl | rfl | rfl <;> rfl
theorem tb_Dc_q (P : Nat) : ∀ j, j < 13 → ((List.range 13).map (fun k => ((2, P + 4 + 1 * k) : Nat × Nat)))[j]? = some (2, P + 4 + 1 * j) := by
  intro j hj
  simp [hj]
theorem tb_Dr {P Q : Nat} (h : fIsD P) (hq : ∃ j, j < 13 ∧ Q = P + 4 + 1 * j) : TB[Q]? = some (0, 13, []) := by
  obtain ⟨j, hj, rfl⟩ := hq
  rcases h with rfl | rfl | rfl <;> rcases (show j = 0 ∨ j = 1 ∨ j = 2 ∨ j = 3 ∨ j = 4 ∨ j = 5 ∨ j = 6 ∨ j = 7 ∨ j = 8 ∨ j = 9 ∨ j = 10 ∨ j = 11 ∨ j = 12 by omega) with rfl | rfl | rfl | rfl | rfl | rfl | rfl | rfl | rfl | rfl | rfl | rfl | rfl <;> rfl
abbrev GM (l : Launch) (p : Program) (e : Env) (s : State) (m : MethodId) (args : Array Value) (below : List Frame) (meth : Method) (c : Code) (D : va_G) (aC : Nat → ClassId) (ad : Nat → Nat) (nL fr lo rk : Nat) (pc : Nat) (lv : List (Nat × Value)) (st : List Value) (M : fMem) (d : fOp) : Prop := GO p l e (fRm fr lo) s m args below meth c vwCl D aC TB ad (fFr ad TB) nL 0 0 (fun r => MQ below (fQ vwCl D aC ad TB rk r) args s 0 0 (fFr ad TB)) pc lv st M d
