def NSE : String := "java/util/NoSuchElementException"
def nsW : List Cond := vx_at0 RX11 243 NSE ["java/lang/RuntimeException", "java/lang/Exception"]
theorem tmp_c : (nsW.filter (fun w => !goodWord w)).all (fun w => match w with | .castable _ _ => true  | _ => false) = true := by decide +kernel
theorem tmp_d : (nsW.filter (fun w => !goodWord w)).all (fun w => match w with | .castable _ _ => true | .superclass _ _ => true | _ => false) = true := by decide +kernel
theorem tmp_e : (nsW.filter (fun w => !goodWord w)).all (fun w => match w with | .castable _ _ => true | .superclass _ _ => true | .native _ => true | .codeSync .. => true | .selects .. => true | _ => false) = true := by decide +kernel
theorem tmp_f : (nsW.filter (fun w => !goodWord w)).length = 2 := by decide +kernel
theorem tmp_g : (nsW.filter (fun w => !goodWord w)).length = 3 := by decide +kernel
theorem tmp_h : (nsW.filter (fun w => !goodWord w)).length = 0 := by decide +kernel
