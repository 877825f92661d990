set_option maxRecDepth 100000 in
theorem xw_136 : xcwP 136 := xg_in (i := 508) (show lw_tbl[508]? = some (.code (xmn 136) (xmb 136) (xml 136) (xmr 136)) from rfl) (xcw_good 136)
set_option maxRecDepth 100000 in
theorem xw_137 : xcwP 137 := xg_in (i := 885) (show lw_tbl[885]? = some (.code (xmn 137) (xmb 137) (xml 137) (xmr 137)) from rfl) (xcw_good 137)
set_option maxRecDepth 100000 in
theorem xw_138 : xcwP 138 := xg_in (i := 899) (show lw_tbl[899]? = some (.code (xmn 138) (xmb 138) (xml 138) (xmr 138)) from rfl) (xcw_good 138)
