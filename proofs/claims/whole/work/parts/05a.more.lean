theorem lt_i32k {x : Int32} {k : Int} {kk : Int32} (h : ¬ x = kk) (e : kk.toInt = k) : ¬ x.toInt = k := fun z => h (Int32.toInt_inj.mp (z.trans e.symm))
theorem lt_lkd {x d k1 o1 k2 o2 : Int} (h1 : ¬ x = k1) (h2 : ¬ x = k2) : Op.lookupswitch.offset [(k1, o1), (k2, o2)] d x = d := by
  rw [Op.lookupswitch.offset_cons, if_neg (fun e => h1 e.symm), Op.lookupswitch.offset_cons, if_neg (fun e => h2 e.symm)]
  rfl
