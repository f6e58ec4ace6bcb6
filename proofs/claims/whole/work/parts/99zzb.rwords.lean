/-! The words of rests' throw stand in the tables -/
def rx_E : String := "java/util/NoSuchElementException"
def rx_N : List String := ["java/lang/RuntimeException", "java/lang/Exception"]
def rx_ws : List Cond := Cond.classLink RX11 241 rx_E :: Cond.initialized rx_E :: vx_at0 RX11 243 rx_E rx_N
theorem rx_ot : ∀ w ∈ rx_ws, vx_ot w = true := List.all_eq_true.mp (by decide +kernel)
theorem rx_in : ∀ w ∈ rx_ws, w ∈ lw_tbl := fun w hw => List.mem_append_right _ (of_decide_eq_true (List.all_eq_true.mp (show rx_ws.all (fun w => decide (w ∈ tables_1)) = true by decide +kernel) w hw))
