def zq_X : List Cond := (vx_atS RX8 211 "java/util/NoSuchElementException" ["java/lang/RuntimeException", "java/lang/Exception"]).filter goodWord
def zq_bad : List Cond := zq_X.filter (fun w => !decide (w ∈ tables_1))
theorem zq_t0 : (zq_bad.length == 0) = true := by decide +kernel
theorem zq_t1 : (zq_bad.length == 1) = true := by decide +kernel
theorem zq_t2 : (zq_bad.length == 2) = true := by decide +kernel
theorem zq_t3 : (zq_bad.length == 3) = true := by decide +kernel
theorem zq_t4 : (zq_bad.length == 4) = true := by decide +kernel
theorem zq_t5 : (zq_bad.length == 5) = true := by decide +kernel
theorem zq_t6 : (zq_bad.length == 6) = true := by decide +kernel
theorem zq_t7 : (zq_bad.length == 7) = true := by decide +kernel
theorem zq_tn : (zq_X.length == 31) = true := by decide +kernel
