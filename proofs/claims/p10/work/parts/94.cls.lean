/-! THE CLASS: can, found, bars, bound, read -/
theorem es_s149 : et_cv et_TT (es_p149 [.inl (et_mn, et_mx), .inl (et_mn, et_mx)]) := es_p149_ok hc_begin hc_each hc_boundOf -- can
theorem es_s152 : et_cv et_TT (es_p152 [.inl (et_mn, et_mx), .inl (et_mn, et_mx), .inl (et_mn, et_mx)]) := es_p152_ok hc_begin hc_each hc_boundOf -- found
theorem es_s154 : et_cv et_TT (es_p154 [.inl (et_mn, et_mx), .inl (et_mn, et_mx)]) := es_p154_ok hc_begin hc_each hc_boundOf -- bars
theorem es_s155 : et_cv et_TT (es_p155 [.inl (et_mn, et_mx), .inl (et_mn, et_mx)]) := es_p155_ok hc_begin hc_each hc_boundOf -- bound
theorem es_s171 : et_cv et_TT (es_p171 [.inl (et_mn, et_mx), .inl (et_mn, et_mx), .inl (0, 1)]) := es_p171_ok hc_begin hc_each hc_boundOf -- read
