theorem cn_fill (l : Launch) (q n : Nat) (he : TB[q]? = some (0, n, [])) (hn : n ≤ 2147483648) (v : Int) (M : fMem) : fMt l vwCl TB yJ7_fill cJ7_fill 4 (none) 0 0 2 (fun ad => [.ref (ad q), .int (fI v)]) M (fFil M q n v) := by
  sorry
