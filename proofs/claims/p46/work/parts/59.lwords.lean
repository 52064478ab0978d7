/-! the words of the law's methods with a table -/
theorem w_cw_L_act : Cond.codeWith yL_act cL_act 10 none [(45, 338, 341, 105), (45, 338, 344, 107)] ∈ e_TB := e_tb 410 (by decide +kernel) (by decide +kernel)
