def wt_rem (x y : Int32) : Int32 := x - x / y * y
theorem wt_irem {X : wt_X} {cc : ByteArray} {nL : Nat} {own : String} {d Km K : Nat} {σ : wt_St} {pc : Nat} {lv : List (Option Value)} {st : List Value} (h : wt_Ok X cc nL own d Km) {x y : Int32} (hd : decode cc pc = .ok (.irem, 1)) (hne : ¬ y = 0) (k : wt_V X K σ (pc + 1) lv (.int (wt_rem x y) :: st)) : wt_V X K σ pc lv (.int y :: .int x :: st) :=
  fun H locs ls ce sl h1 h2 hw hS hl => lv_irem h.1 h.2.1 hd hne (k H locs ls ce sl h1 h2 hw hS hl)
