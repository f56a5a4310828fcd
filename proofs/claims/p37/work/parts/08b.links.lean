set_option maxRecDepth 100000 in
theorem ok_L_cell : qMok mL_cell := ⟨(qtb_in 506 rfl rfl), (qtb_in 19 (by decide +kernel) (by decide +kernel)), (by decide +kernel), ⟨(by decide +kernel), (by decide +kernel)⟩, (by decide +kernel)⟩
set_option maxRecDepth 100000 in
theorem ok_L_some : qMok mL_some := ⟨(qtb_in 510 rfl rfl), (qtb_in 19 (by decide +kernel) (by decide +kernel)), (by decide +kernel), ⟨(by decide +kernel), (by decide +kernel)⟩, (by decide +kernel)⟩
set_option maxRecDepth 100000 in
theorem ok_L_put : qMok mL_put := ⟨(qtb_in 514 rfl rfl), (qtb_in 19 (by decide +kernel) (by decide +kernel)), (by decide +kernel), ⟨(by decide +kernel), (by decide +kernel)⟩, (by decide +kernel)⟩
set_option maxRecDepth 100000 in
theorem ok_L_change : qMok mL_change := ⟨(qtb_in 517 rfl rfl), (qtb_in 19 (by decide +kernel) (by decide +kernel)), (by decide +kernel), ⟨(by decide +kernel), (by decide +kernel)⟩, (by decide +kernel)⟩
set_option maxRecDepth 100000 in
theorem ok_L_night : qMok mL_night := ⟨(qtb_in 520 rfl rfl), (qtb_in 19 (by decide +kernel) (by decide +kernel)), (by decide +kernel), ⟨(by decide +kernel), (by decide +kernel)⟩, (by decide +kernel)⟩
set_option maxRecDepth 100000 in
theorem ok_L_truly : qMok mL_truly := ⟨(qtb_in 523 rfl rfl), (qtb_in 19 (by decide +kernel) (by decide +kernel)), (by decide +kernel), ⟨(by decide +kernel), (by decide +kernel)⟩, (by decide +kernel)⟩
set_option maxRecDepth 100000 in
theorem ok_L_all : qMok mL_all := ⟨(qtb_in 526 rfl rfl), (qtb_in 19 (by decide +kernel) (by decide +kernel)), (by decide +kernel), ⟨(by decide +kernel), (by decide +kernel)⟩, (by decide +kernel)⟩
set_option maxRecDepth 100000 in
theorem ok_L_like : qMok mL_like := ⟨(qtb_in 529 rfl rfl), (qtb_in 19 (by decide +kernel) (by decide +kernel)), (by decide +kernel), ⟨(by decide +kernel), (by decide +kernel)⟩, (by decide +kernel)⟩
set_option maxRecDepth 100000 in
theorem ok_L_isAlike : qMok mL_isAlike := ⟨(qtb_in 532 rfl rfl), (qtb_in 19 (by decide +kernel) (by decide +kernel)), (by decide +kernel), ⟨(by decide +kernel), (by decide +kernel)⟩, (by decide +kernel)⟩
