theorem wsL_law_x0 : ∀ w ∈ (vx_atX RX8 211 "java/util/NoSuchElementException" 13 nsR "java/lang/RuntimeException" ["java/lang/Exception"]).filter goodWord, w ∈ lw_tbl := by
  have h : ((vx_atX RX8 211 "java/util/NoSuchElementException" 13 nsR "java/lang/RuntimeException" ["java/lang/Exception"]).filter goodWord).all (fun w => decide (w ∈ lw_tbl)) = true := by decide +kernel
  exact fun w hw => of_decide_eq_true (List.all_eq_true.mp h w hw)
theorem wsL_law_in : ∀ w ∈ wsL_law, w ∈ lw_tbl := fun w h => (List.mem_append.mp h).elim (fun h => wsL_law_in0 w h) (fun h => wsL_law_x0 w h)
