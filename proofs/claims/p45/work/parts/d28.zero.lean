/-! Where the law begins: rows that are none of the class's hold nothing. -/
def ZZ (h : PH) : Prop := ∀ a, 83 ≤ a → ∀ k, h.1 a k = 0
theorem ZZ_I {h : PH} {b k : Nat} {v : Int32} (z : ZZ h) (hb : b < 83) : ZZ (setI h b k v) := fun a ha j => (setI_ne (by omega)).trans (z a ha j)
theorem ZZ_R {h : PH} {b k : Nat} {v : VR} (z : ZZ h) : ZZ (setR h b k v) := z
theorem ZZ_g {h : PH} {n : Nat} (z : ZZ h) : ZZ (grow h n) := z
theorem ZZ_h0 (xs : Nat → Int32) : ZZ (h0 xs) := fun a ha k => if_neg (by omega)
theorem ZZ_1 (xs : Nat → Int32) : ZZ (sx_1 xs) := by
  unfold sx_1
  exact (ZZ_g (ZZ_g (ZZ_h0 xs)))
theorem ZZ_2 (xs : Nat → Int32) : ZZ (sx_2 xs) := by
  unfold sx_2
  exact (ZZ_g (ZZ_1 xs))
theorem ZZ_3 (xs : Nat → Int32) : ZZ (sx_3 xs) := by
  unfold sx_3
  exact (ZZ_g (ZZ_2 xs))
theorem ZZ_4 (xs : Nat → Int32) : ZZ (sx_4 xs) := by
  unfold sx_4
  exact (ZZ_R (ZZ_g (ZZ_3 xs)))
theorem ZZ_5 (xs : Nat → Int32) : ZZ (sx_5 xs) := by
  unfold sx_5
  exact (ZZ_R (ZZ_g (ZZ_R (ZZ_g (ZZ_R (ZZ_g (ZZ_R (ZZ_g (ZZ_R (ZZ_4 xs))))))))))
theorem ZZ_6 (xs : Nat → Int32) : ZZ (sx_6 xs) := by
  unfold sx_6
  exact (ZZ_g (ZZ_R (ZZ_g (ZZ_R (ZZ_g (ZZ_R (ZZ_5 xs)))))))
theorem ZZ_7 (xs : Nat → Int32) : ZZ (sx_7 xs) := by
  unfold sx_7
  exact (ZZ_R (ZZ_I (ZZ_I (ZZ_6 xs) (by decide)) (by decide)))
theorem ZZ_8 (xs : Nat → Int32) : ZZ (sx_8 xs) := by
  unfold sx_8
  exact (ZZ_g (ZZ_R (ZZ_7 xs)))
theorem ZZ_9 (xs : Nat → Int32) : ZZ (sx_9 xs) := by
  unfold sx_9
  exact (ZZ_g (ZZ_R (ZZ_g (ZZ_R (ZZ_g (ZZ_R (ZZ_g (ZZ_R (ZZ_g (ZZ_8 xs))))))))))
theorem ZZ_10 (xs : Nat → Int32) : ZZ (sx_10 xs) := by
  unfold sx_10
  exact (ZZ_R (ZZ_g (ZZ_R (ZZ_g (ZZ_R (ZZ_g (ZZ_9 xs)))))))
theorem ZZ_11 (xs : Nat → Int32) : ZZ (sx_11 xs) := by
  unfold sx_11
  exact (ZZ_R (ZZ_10 xs))
theorem ZZ_12 (xs : Nat → Int32) : ZZ (sx_12 xs) := by
  unfold sx_12
  exact (ZZ_g (ZZ_11 xs))
theorem ZZ_13 (xs : Nat → Int32) : ZZ (sx_13 xs) := by
  unfold sx_13
  exact (ZZ_R (ZZ_I (ZZ_I (ZZ_12 xs) (by decide)) (by decide)))
theorem ZZ_14 (xs : Nat → Int32) : ZZ (sx_14 xs) := by
  unfold sx_14
  exact (ZZ_R (ZZ_13 xs))
theorem ZZ_15 (xs : Nat → Int32) : ZZ (sx_15 xs) := by
  unfold sx_15
  exact (ZZ_g (ZZ_14 xs))
theorem ZZ_16 (xs : Nat → Int32) : ZZ (sx_16 xs) := by
  unfold sx_16
  exact (ZZ_R (ZZ_I (ZZ_I (ZZ_15 xs) (by decide)) (by decide)))
theorem ZZ_17 (xs : Nat → Int32) : ZZ (sx_17 xs) := by
  unfold sx_17
  exact (ZZ_R (ZZ_16 xs))
theorem ZZ_18 (xs : Nat → Int32) : ZZ (sx_18 xs) := by
  unfold sx_18
  exact (ZZ_g (ZZ_17 xs))
theorem ZZ_19 (xs : Nat → Int32) : ZZ (sx_19 xs) := by
  unfold sx_19
  exact (ZZ_R (ZZ_I (ZZ_I (ZZ_18 xs) (by decide)) (by decide)))
theorem ZZ_20 (xs : Nat → Int32) : ZZ (sx_20 xs) := by
  unfold sx_20
  exact (ZZ_R (ZZ_19 xs))
theorem ZZ_21 (xs : Nat → Int32) : ZZ (sx_21 xs) := by
  unfold sx_21
  exact (ZZ_g (ZZ_20 xs))
theorem ZZ_22 (xs : Nat → Int32) : ZZ (sx_22 xs) := by
  unfold sx_22
  exact (ZZ_R (ZZ_I (ZZ_I (ZZ_21 xs) (by decide)) (by decide)))
theorem ZZ_23 (xs : Nat → Int32) : ZZ (sx_23 xs) := by
  unfold sx_23
  exact (ZZ_R (ZZ_22 xs))
theorem ZZ_24 (xs : Nat → Int32) : ZZ (sx_24 xs) := by
  unfold sx_24
  exact (ZZ_g (ZZ_23 xs))
theorem ZZ_25 (xs : Nat → Int32) : ZZ (sx_25 xs) := by
  unfold sx_25
  exact (ZZ_R (ZZ_I (ZZ_I (ZZ_24 xs) (by decide)) (by decide)))
theorem ZZ_26 (xs : Nat → Int32) : ZZ (sx_26 xs) := by
  unfold sx_26
  exact (ZZ_R (ZZ_25 xs))
theorem ZZ_27 (xs : Nat → Int32) : ZZ (sx_27 xs) := by
  unfold sx_27
  exact (ZZ_g (ZZ_26 xs))
theorem ZZ_28 (xs : Nat → Int32) : ZZ (sx_28 xs) := by
  unfold sx_28
  exact (ZZ_R (ZZ_I (ZZ_I (ZZ_27 xs) (by decide)) (by decide)))
theorem ZZ_29 (xs : Nat → Int32) : ZZ (sx_29 xs) := by
  unfold sx_29
  exact (ZZ_R (ZZ_28 xs))
theorem ZZ_30 (xs : Nat → Int32) : ZZ (sx_30 xs) := by
  unfold sx_30
  exact (ZZ_I (ZZ_I (ZZ_R (ZZ_29 xs)) (by decide)) (by decide))
theorem ZZ_31 (xs : Nat → Int32) : ZZ (sx_31 xs) := by
  unfold sx_31
  exact (ZZ_g (ZZ_R (ZZ_R (ZZ_30 xs))))
theorem ZZ_32 (xs : Nat → Int32) : ZZ (sx_32 xs) := by
  unfold sx_32
  exact (ZZ_R (ZZ_g (ZZ_R (ZZ_g (ZZ_R (ZZ_g (ZZ_R (ZZ_31 xs))))))))
theorem ZZ_33 (xs : Nat → Int32) : ZZ (sx_33 xs) := by
  unfold sx_33
  exact (ZZ_g (ZZ_32 xs))
theorem ZZ_34 (xs : Nat → Int32) : ZZ (sx_34 xs) := by
  unfold sx_34
  exact (ZZ_R (ZZ_g (ZZ_R (ZZ_g (ZZ_R (ZZ_g (ZZ_R (ZZ_g (ZZ_33 xs)))))))))
theorem ZZ_35 (xs : Nat → Int32) : ZZ (sx_35 xs) := by
  unfold sx_35
  exact (ZZ_R (ZZ_34 xs))
theorem ZZ_36 (xs : Nat → Int32) : ZZ (sx_36 xs) := by
  unfold sx_36
  exact (ZZ_g (ZZ_35 xs))
theorem ZZ_37 (xs : Nat → Int32) : ZZ (sx_37 xs) := by
  unfold sx_37
  exact (ZZ_R (ZZ_g (ZZ_R (ZZ_g (ZZ_R (ZZ_g (ZZ_R (ZZ_g (ZZ_36 xs)))))))))
theorem ZZ_38 (xs : Nat → Int32) : ZZ (sx_38 xs) := by
  unfold sx_38
  exact (ZZ_R (ZZ_37 xs))
theorem ZZ_39 (xs : Nat → Int32) : ZZ (sx_39 xs) := by
  unfold sx_39
  exact (ZZ_g (ZZ_38 xs))
theorem ZZ_40 (xs : Nat → Int32) : ZZ (sx_40 xs) := by
  unfold sx_40
  exact (ZZ_R (ZZ_g (ZZ_R (ZZ_g (ZZ_R (ZZ_g (ZZ_R (ZZ_g (ZZ_39 xs)))))))))
theorem ZZ_41 (xs : Nat → Int32) : ZZ (sx_41 xs) := by
  unfold sx_41
  exact (ZZ_R (ZZ_40 xs))
theorem ZZ_42 (xs : Nat → Int32) : ZZ (sx_42 xs) := by
  unfold sx_42
  exact (ZZ_g (ZZ_41 xs))
theorem ZZ_43 (xs : Nat → Int32) : ZZ (sx_43 xs) := by
  unfold sx_43
  exact (ZZ_R (ZZ_g (ZZ_R (ZZ_g (ZZ_R (ZZ_g (ZZ_R (ZZ_g (ZZ_42 xs)))))))))
theorem ZZ_44 (xs : Nat → Int32) : ZZ (sx_44 xs) := by
  unfold sx_44
  exact (ZZ_R (ZZ_43 xs))
theorem ZZ_45 (xs : Nat → Int32) : ZZ (sx_45 xs) := by
  unfold sx_45
  exact (ZZ_g (ZZ_44 xs))
theorem ZZ_46 (xs : Nat → Int32) : ZZ (sx_46 xs) := by
  unfold sx_46
  exact (ZZ_R (ZZ_g (ZZ_R (ZZ_g (ZZ_R (ZZ_g (ZZ_R (ZZ_g (ZZ_45 xs)))))))))
theorem ZZ_47 (xs : Nat → Int32) : ZZ (sx_47 xs) := by
  unfold sx_47
  exact (ZZ_R (ZZ_46 xs))
theorem ZZ_48 (xs : Nat → Int32) : ZZ (sx_48 xs) := by
  unfold sx_48
  exact (ZZ_g (ZZ_47 xs))
theorem ZZ_49 (xs : Nat → Int32) : ZZ (sx_49 xs) := by
  unfold sx_49
  exact (ZZ_R (ZZ_g (ZZ_R (ZZ_g (ZZ_R (ZZ_g (ZZ_R (ZZ_g (ZZ_48 xs)))))))))
theorem ZZ_50 (xs : Nat → Int32) : ZZ (sx_50 xs) := by
  unfold sx_50
  exact (ZZ_R (ZZ_49 xs))
theorem ZZ_51 (xs : Nat → Int32) : ZZ (sx_51 xs) := by
  unfold sx_51
  exact (ZZ_g (ZZ_50 xs))
theorem ZZ_52 (xs : Nat → Int32) : ZZ (sx_52 xs) := by
  unfold sx_52
  exact (ZZ_R (ZZ_g (ZZ_R (ZZ_g (ZZ_R (ZZ_g (ZZ_R (ZZ_g (ZZ_R (ZZ_g (ZZ_51 xs)))))))))))
theorem ZZ_53 (xs : Nat → Int32) : ZZ (sx_53 xs) := by
  unfold sx_53
  exact (ZZ_g (ZZ_R (ZZ_52 xs)))
theorem ZZ_54 (xs : Nat → Int32) : ZZ (sx_54 xs) := by
  unfold sx_54
  exact (ZZ_g (ZZ_R (ZZ_g (ZZ_R (ZZ_g (ZZ_R (ZZ_g (ZZ_R (ZZ_g (ZZ_53 xs))))))))))
theorem ZZ_55 (xs : Nat → Int32) : ZZ (sx_55 xs) := by
  unfold sx_55
  exact (ZZ_R (ZZ_g (ZZ_R (ZZ_g (ZZ_R (ZZ_g (ZZ_54 xs)))))))
theorem ZZ_56 (xs : Nat → Int32) : ZZ (sx_56 xs) := by
  unfold sx_56
  exact (ZZ_R (ZZ_55 xs))
theorem ZZ_57 (xs : Nat → Int32) : ZZ (sx_57 xs) := by
  unfold sx_57
  exact (ZZ_g (ZZ_56 xs))
theorem ZZ_58 (xs : Nat → Int32) : ZZ (sx_58 xs) := by
  unfold sx_58
  exact (ZZ_R (ZZ_I (ZZ_I (ZZ_57 xs) (by decide)) (by decide)))
theorem ZZ_59 (xs : Nat → Int32) : ZZ (sx_59 xs) := by
  unfold sx_59
  exact (ZZ_R (ZZ_58 xs))
theorem ZZ_60 (xs : Nat → Int32) : ZZ (sx_60 xs) := by
  unfold sx_60
  exact (ZZ_g (ZZ_59 xs))
theorem ZZ_61 (xs : Nat → Int32) : ZZ (sx_61 xs) := by
  unfold sx_61
  exact (ZZ_R (ZZ_I (ZZ_I (ZZ_60 xs) (by decide)) (by decide)))
theorem ZZ_62 (xs : Nat → Int32) : ZZ (sx_62 xs) := by
  unfold sx_62
  exact (ZZ_R (ZZ_61 xs))
theorem ZZ_63 (xs : Nat → Int32) : ZZ (sx_63 xs) := by
  unfold sx_63
  exact (ZZ_g (ZZ_62 xs))
theorem ZZ_64 (xs : Nat → Int32) : ZZ (sx_64 xs) := by
  unfold sx_64
  exact (ZZ_R (ZZ_I (ZZ_I (ZZ_63 xs) (by decide)) (by decide)))
theorem ZZ_65 (xs : Nat → Int32) : ZZ (sx_65 xs) := by
  unfold sx_65
  exact (ZZ_R (ZZ_64 xs))
theorem ZZ_66 (xs : Nat → Int32) : ZZ (sx_66 xs) := by
  unfold sx_66
  exact (ZZ_g (ZZ_65 xs))
theorem ZZ_67 (xs : Nat → Int32) : ZZ (sx_67 xs) := by
  unfold sx_67
  exact (ZZ_R (ZZ_I (ZZ_I (ZZ_66 xs) (by decide)) (by decide)))
theorem ZZ_68 (xs : Nat → Int32) : ZZ (sx_68 xs) := by
  unfold sx_68
  exact (ZZ_R (ZZ_67 xs))
theorem ZZ_69 (xs : Nat → Int32) : ZZ (sx_69 xs) := by
  unfold sx_69
  exact (ZZ_g (ZZ_68 xs))
theorem ZZ_70 (xs : Nat → Int32) : ZZ (sx_70 xs) := by
  unfold sx_70
  exact (ZZ_R (ZZ_I (ZZ_I (ZZ_69 xs) (by decide)) (by decide)))
theorem ZZ_71 (xs : Nat → Int32) : ZZ (sx_71 xs) := by
  unfold sx_71
  exact (ZZ_R (ZZ_70 xs))
theorem ZZ_72 (xs : Nat → Int32) : ZZ (sx_72 xs) := by
  unfold sx_72
  exact (ZZ_g (ZZ_71 xs))
theorem ZZ_73 (xs : Nat → Int32) : ZZ (sx_73 xs) := by
  unfold sx_73
  exact (ZZ_R (ZZ_I (ZZ_I (ZZ_72 xs) (by decide)) (by decide)))
theorem ZZ_74 (xs : Nat → Int32) : ZZ (sx_74 xs) := by
  unfold sx_74
  exact (ZZ_R (ZZ_73 xs))
theorem ZZ_75 (xs : Nat → Int32) : ZZ (sx_75 xs) := by
  unfold sx_75
  exact (ZZ_I (ZZ_R (ZZ_74 xs)) (by decide))
theorem ZZ_in (xs : Nat → Int32) : ZZ (hIn xs) := ZZ_75 xs
