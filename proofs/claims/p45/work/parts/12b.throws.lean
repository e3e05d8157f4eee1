/-! The words of a throw, and what methods answer, held by the kernel. -/
theorem mrk_all : ((List.range 225).all fun m => match mrk m with | 0 => decide (mrt m = none) | 1 => decide (mrt m = some .int) | 2 => decide (mrt m = some .long) | 3 => decide (mrt m = some .double) | 5 => decide (mrt m = some .boolean) | 6 => decide (mrt m = some .char) | 7 => decide (mrt m = some .byte) | _ => match mrt m with | some (.object _) => true | some (.array _) => true | _ => false) = true := by decide +kernel
theorem xr_all : ((List.range 49152).all fun k => match XR k with | none => true | some e => Nat.beq (k / 2048) 1 && ((Nat.beq (k % 2048) 71 && Nat.beq e 0) || (Nat.beq (k % 2048) 82 && Nat.beq e 1) || (Nat.beq (k % 2048) 362 && Nat.beq e 2))) = true := by decide +kernel
noncomputable def xnm : List String := ["java/lang/RuntimeException", "java/lang/Exception"]
noncomputable def xok (w : Cond) : Bool := (goodWord w && decide (w ∈ lw_tbl)) || (pm_nest w && decide (w ∈ tables_1))
set_option maxHeartbeats 2000000 in
theorem xa_0 : ((Cond.classLink "CommaStream" 71 (exn 0) :: Cond.initialized (exn 0) :: vx_atS "CommaStream" 75 (exn 0) xnm).all fun w => xok w && vx_ot w) = true := by decide +kernel
set_option maxHeartbeats 2000000 in
theorem xa_1 : ((Cond.classLink "CommaStream" 82 (exn 1) :: Cond.initialized (exn 1) :: vx_atS "CommaStream" 86 (exn 1) xnm).all fun w => xok w && vx_ot w) = true := by decide +kernel
set_option maxHeartbeats 2000000 in
theorem xa_2 : ((Cond.classLink "CommaStream" 362 (exn 2) :: Cond.initialized (exn 2) :: vx_atS "CommaStream" 364 (exn 2) xnm).all fun w => xok w && vx_ot w) = true := by decide +kernel
theorem xfit : (Bundle.fit (exn 0) && Bundle.fit (exn 1) && Bundle.fit (exn 2) && xnm.all Bundle.fit) = true := by decide +kernel
