/-! ===== the words that stand for good ===== -/
def lgd : Cond → Bool
  | .privateMethod _ => false
  | .laysStatic _ _ _ => false
  | _ => true
def lw_good : List Cond := lw_tbl.map (fun w => if lgd w then w else Cond.initialized "PutBackLaw")
