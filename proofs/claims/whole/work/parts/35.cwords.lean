set_option maxRecDepth 100000 in
theorem hu_0 : ∀ w ∈ u_ws RJx4a65c TJx4a65c 3, w ∈ hk_tb := fun w h => hk_in ((by decide +kernel : ∀ w ∈ u_ws RJx4a65c TJx4a65c 3, w ∈ lw_tbl) w h) ((by decide +kernel : ∀ w ∈ u_ws RJx4a65c TJx4a65c 3, goodWord w = true) w h)
set_option maxRecDepth 100000 in
theorem hu_1 : ∀ w ∈ u_ws RX0 TX0 5, w ∈ hk_tb := fun w h => hk_in ((by decide +kernel : ∀ w ∈ u_ws RX0 TX0 5, w ∈ lw_tbl) w h) ((by decide +kernel : ∀ w ∈ u_ws RX0 TX0 5, goodWord w = true) w h)
set_option maxRecDepth 100000 in
theorem hu_2 : ∀ w ∈ u_ws RX1 TX1 4, w ∈ hk_tb := fun w h => hk_in ((by decide +kernel : ∀ w ∈ u_ws RX1 TX1 4, w ∈ lw_tbl) w h) ((by decide +kernel : ∀ w ∈ u_ws RX1 TX1 4, goodWord w = true) w h)
set_option maxRecDepth 100000 in
theorem hu_3 : ∀ w ∈ u_ws RX2 TX2 7, w ∈ hk_tb := fun w h => hk_in ((by decide +kernel : ∀ w ∈ u_ws RX2 TX2 7, w ∈ lw_tbl) w h) ((by decide +kernel : ∀ w ∈ u_ws RX2 TX2 7, goodWord w = true) w h)
set_option maxRecDepth 100000 in
theorem hu_4 : ∀ w ∈ u_ws RX3 TX3 7, w ∈ hk_tb := fun w h => hk_in ((by decide +kernel : ∀ w ∈ u_ws RX3 TX3 7, w ∈ lw_tbl) w h) ((by decide +kernel : ∀ w ∈ u_ws RX3 TX3 7, goodWord w = true) w h)
set_option maxRecDepth 100000 in
theorem hu_5 : ∀ w ∈ u_ws RX4 TX4 4, w ∈ hk_tb := fun w h => hk_in ((by decide +kernel : ∀ w ∈ u_ws RX4 TX4 4, w ∈ lw_tbl) w h) ((by decide +kernel : ∀ w ∈ u_ws RX4 TX4 4, goodWord w = true) w h)
set_option maxRecDepth 100000 in
theorem hu_6 : ∀ w ∈ u_ws RX5 TX5 8, w ∈ hk_tb := fun w h => hk_in ((by decide +kernel : ∀ w ∈ u_ws RX5 TX5 8, w ∈ lw_tbl) w h) ((by decide +kernel : ∀ w ∈ u_ws RX5 TX5 8, goodWord w = true) w h)
set_option maxRecDepth 100000 in
theorem hu_7 : ∀ w ∈ u_ws RX6 TX6 12, w ∈ hk_tb := fun w h => hk_in ((by decide +kernel : ∀ w ∈ u_ws RX6 TX6 12, w ∈ lw_tbl) w h) ((by decide +kernel : ∀ w ∈ u_ws RX6 TX6 12, goodWord w = true) w h)
set_option maxRecDepth 100000 in
theorem hu_8 : ∀ w ∈ u_ws RX7 TX7 3, w ∈ hk_tb := fun w h => hk_in ((by decide +kernel : ∀ w ∈ u_ws RX7 TX7 3, w ∈ lw_tbl) w h) ((by decide +kernel : ∀ w ∈ u_ws RX7 TX7 3, goodWord w = true) w h)
set_option maxRecDepth 100000 in
theorem hu_9 : ∀ w ∈ u_ws RX8 TX8 20, w ∈ hk_tb := fun w h => hk_in ((by decide +kernel : ∀ w ∈ u_ws RX8 TX8 20, w ∈ lw_tbl) w h) ((by decide +kernel : ∀ w ∈ u_ws RX8 TX8 20, goodWord w = true) w h)
set_option maxRecDepth 100000 in
theorem hu_10 : ∀ w ∈ u_ws RX9 TX9 4, w ∈ hk_tb := fun w h => hk_in ((by decide +kernel : ∀ w ∈ u_ws RX9 TX9 4, w ∈ lw_tbl) w h) ((by decide +kernel : ∀ w ∈ u_ws RX9 TX9 4, goodWord w = true) w h)
set_option maxRecDepth 100000 in
theorem hu_11 : ∀ w ∈ u_ws RX10 TX10 5, w ∈ hk_tb := fun w h => hk_in ((by decide +kernel : ∀ w ∈ u_ws RX10 TX10 5, w ∈ lw_tbl) w h) ((by decide +kernel : ∀ w ∈ u_ws RX10 TX10 5, goodWord w = true) w h)
set_option maxRecDepth 100000 in
theorem hu_12 : ∀ w ∈ u_ws RX11 TX11 6, w ∈ hk_tb := fun w h => hk_in ((by decide +kernel : ∀ w ∈ u_ws RX11 TX11 6, w ∈ lw_tbl) w h) ((by decide +kernel : ∀ w ∈ u_ws RX11 TX11 6, goodWord w = true) w h)
