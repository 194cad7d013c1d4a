-- pierced: the pair
set_option maxRecDepth 20000
