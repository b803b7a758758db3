theorem wt_divI {x y : Int32} (hx : 0 ≤ x.toInt) (hy : 0 < y.toInt) : (x / y).toInt = x.toInt / y.toInt := by
  have b := wt_bd x
  have c := wt_bd y
  rw [Jvm.Kit.i32_div (by omega)]
  exact Int.tdiv_eq_ediv_of_nonneg hx
theorem wt_addE {x y : Int32} (h1 : -2147483648 ≤ x.toInt + y.toInt) (h2 : x.toInt + y.toInt < 2147483648) : (x + y).toInt = x.toInt + y.toInt := Jvm.Kit.i32_add (by omega) (by omega)
theorem wt_subE {x y : Int32} (h1 : -2147483648 ≤ x.toInt - y.toInt) (h2 : x.toInt - y.toInt < 2147483648) : (x - y).toInt = x.toInt - y.toInt := Jvm.Kit.i32_sub (by omega) (by omega)
theorem wt_mulE {x y : Int32} (h1 : -2147483648 ≤ x.toInt * y.toInt) (h2 : x.toInt * y.toInt < 2147483648) : (x * y).toInt = x.toInt * y.toInt := Jvm.Kit.i32_mul (by omega) (by omega)
theorem wt_mulL {x y : Int32} {c : Int} (e : x.toInt = c) (h1 : -2147483648 ≤ c * y.toInt) (h2 : c * y.toInt < 2147483648) : (x * y).toInt = c * y.toInt := by
  subst e
  exact wt_mulE h1 h2
theorem wt_tnle {x : Int32} {b : Nat} (h : x.toInt ≤ (b : Int)) : Int32.toNatClampNeg x ≤ b := by
  unfold Int32.toNatClampNeg
  omega
theorem wt_tn_i1 {c : Int32} (h0 : 0 ≤ c.toInt) (h1 : c.toInt < 2147483647) : Int32.toNatClampNeg (c + (1 : Int32)) = Int32.toNatClampNeg c + 1 := by
  unfold Int32.toNatClampNeg
  rw [wt_i1 h1]
  omega
theorem wt_tnI {x : Int32} (h : 0 ≤ x.toInt) : (Int32.toNatClampNeg x : Int) = x.toInt := by
  unfold Int32.toNatClampNeg
  omega
theorem wt_tnN {x : Int32} {m : Nat} (h : x.toInt = (m : Int)) : Int32.toNatClampNeg x = m := by
  unfold Int32.toNatClampNeg
  omega
theorem wt_mulR {x y : Int32} {c : Int} (e : y.toInt = c) (h1 : -2147483648 ≤ x.toInt * c) (h2 : x.toInt * c < 2147483648) : (x * y).toInt = x.toInt * c := by
  subst e
  exact wt_mulE h1 h2
